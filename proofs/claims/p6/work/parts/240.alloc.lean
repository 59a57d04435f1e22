/-! Something is made: a row, at the heap's end. -/
def qU (q : PL) (r : Nat) (i : Int32) (n : Nat) : PL := (fun r' i' => if r' = r ∧ i' = i then q.2.1 else q.1 r' i', q.2.1 + 1, q.2.2 + n)
theorem qU_at (q : PL) (r : Nat) (i : Int32) (n : Nat) : (qU q r i n).1 r i = q.2.1 := by simp [qU]
theorem qU_ne {q : PL} {r r' : Nat} {i i' : Int32} {n : Nat} (h : ¬ (r' = r ∧ i' = i)) : (qU q r i n).1 r' i' = q.1 r' i' := by simp [qU, h]
theorem cellAt_lt {P : PP} {q : PL} {s : S1} {r : Nat} {i : Int32} {H : Heap} (h : cellAt P q s r i H) : q.1 r i < H.size := by
  unfold cellAt at h
  by_cases h0 : rkF r = 0
  · rw [if_pos h0] at h
    obtain ⟨cell, h1, -⟩ := h
    exact (Array.getElem?_eq_some_iff.mp h1).1
  · rw [if_neg h0] at h
    exact (Array.getElem?_eq_some_iff.mp h).1
theorem tot_grow {H H1 : Heap} {c : Cell} (z : H1.size = H.size + 1) (e : H1[H.size]? = some c) (oq : ∀ a : Nat, a < H.size → H1[a]? = H[a]?) : tot H1 = tot H + c.slots.size := by
  have : H1 = H.push c := by
    apply Array.ext_getElem?
    intro a
    rw [Array.getElem?_push]
    by_cases h : a = H.size
    · subst h
      simp [e]
    · rw [if_neg h]
      by_cases h2 : a < H.size
      · exact oq a h2
      · rw [Array.getElem?_eq_none (by omega), Array.getElem?_eq_none (by omega)]
  rw [this, tot_push]
theorem Wd.push {P : PP} {q : PL} {s s' : S1} {H H1 : Heap} {r : Nat} {i : Int32} {n : Nat} (h : Wd P q s H) (z : H1.size = H.size + 1) (oq : ∀ a : Nat, a < H.size → H1[a]? = H[a]?) (zt : tot H1 = tot H + n)
    (hcap : q.2.1 + 1 ≤ P.2.2.2.1 ∧ q.2.2 + n ≤ P.2.2.2.2) (hB : P.1 ≤ q.2.1) (hnew : cellAt P (qU q r i n) s' r i H1) (hln : lnS s' r i < 2147483648)
    (hp : ∀ r' i', ¬ (r' = r ∧ i' = i) → prs s' r' i' → prs s r' i' ∧ lnS s' r' i' = lnS s r' i' ∧ (cellAt P q s r' i' H → cellAt P (qU q r i n) s' r' i' H1))
    (hby : ∀ (r : Nat) (i j : Int32), rkF r = 2 → fits .byte (.int (gA s' r i j)) = true) : Wd P (qU q r i n) s' H1 := by
  obtain ⟨h1, h2, h3, h4, h5⟩ := h
  have low : ∀ r' i', ¬ (r' = r ∧ i' = i) → prs s' r' i' → (qU q r i n).1 r' i' < q.2.1 := fun r' i' hne hq => by
    rw [qU_ne hne, ← h1]
    exact cellAt_lt (h3 r' i' (hp r' i' hne hq).1).1
  refine ⟨by show H1.size = q.2.1 + 1; omega, by show tot H1 = q.2.2 + n; omega, fun r' i' hq => ?_, fun r1 i1 r2 i2 a b e => ?_, hcap.1, hcap.2, hby⟩
  · by_cases hne : r' = r ∧ i' = i
    · obtain ⟨rfl, rfl⟩ := hne
      exact ⟨hnew, by rw [qU_at]; exact hB, hln⟩
    · obtain ⟨g1, g2, g3⟩ := hp r' i' hne hq
      obtain ⟨c1, c2, c3⟩ := h3 r' i' g1
      exact ⟨g3 c1, by rw [qU_ne hne]; exact c2, by rw [g2]; exact c3⟩
  · by_cases n1 : r1 = r ∧ i1 = i
    · by_cases n2 : r2 = r ∧ i2 = i
      · exact ⟨n1.1.trans n2.1.symm, n1.2.trans n2.2.symm⟩
      · have := low r2 i2 n2 b
        rw [← e, n1.1, n1.2, qU_at] at this
        omega
    · by_cases n2 : r2 = r ∧ i2 = i
      · have := low r1 i1 n1 a
        rw [e, n2.1, n2.2, qU_at] at this
        omega
      · rw [qU_ne n1, qU_ne n2] at e
        exact h4 r1 i1 r2 i2 (hp r1 i1 n1 a).1 (hp r2 i2 n2 b).1 e
/-- a new row of ints: it is there, all nought -/
def nwI (s : S1) (r : Nat) (i : Int32) : S1 := sAf (sI s (128 * r + 127) i 1) r i (fun _ => 0)
theorem gI_nwI (s : S1) (r f : Nat) (i i' : Int32) : gI (nwI s r i) f i' = if f = 128 * r + 127 ∧ i' = i then 1 else gI s f i' := rfl
theorem gL_nwI (s : S1) (r f : Nat) (i i' : Int32) : gL (nwI s r i) f i' = gL s f i' := rfl
theorem gB_nwI (s : S1) (r f : Nat) (i i' j : Int32) : gB (nwI s r i) f i' j = gB s f i' j := rfl
theorem gA_nwI (s : S1) (r r' : Nat) (i i' j : Int32) : gA (nwI s r i) r' i' j = if r' = r ∧ i' = i then 0 else gA s r' i' j := by
  unfold nwI
  rw [gA_sAf]
  rfl
theorem nw_other {P : PP} {q : PL} {s : S1} {H H1 : Heap} {r n : Nat} {i : Int32} (hno : ∀ f, tgG f ≠ r) (hte : ∀ x, rkF x ≠ 6 → rkF x ≠ 7 → 5 ≤ rkF x → teF x ≠ r) (h0 : rkF r ≠ 0) (oq : ∀ a : Nat, a < H.size → H1[a]? = H[a]?) (r' : Nat) (i' : Int32) (hne : ¬ (r' = r ∧ i' = i)) (hp : prs (nwI s r i) r' i') :
    prs s r' i' ∧ lnS (nwI s r i) r' i' = lnS s r' i' ∧ (cellAt P q s r' i' H → cellAt P (qU q r i n) (nwI s r i) r' i' H1) := by
  have fl : ∀ t j, ¬ (t = r ∧ j = i) → gI (nwI s r i) (128 * t + 127) j = gI s (128 * t + 127) j := fun t j hh => by
    rw [gI_nwI, if_neg]
    rintro ⟨a, b⟩
    exact hh ⟨by omega, b⟩
  have fk : ∀ t k j, k < 127 → gI (nwI s r i) (128 * t + k) j = gI s (128 * t + k) j := fun t k j hk => by
    rw [gI_nwI, if_neg]
    rintro ⟨a, b⟩
    omega
  refine ⟨?_, ?_, fun hc => ?_⟩
  · unfold prs at hp ⊢
    rw [fl r' i' hne] at hp
    exact hp
  · unfold lnS
    rw [fk r' 126 i' (by decide)]
  · have hlt := cellAt_lt hc
    unfold cellAt at hc ⊢
    rw [qU_ne hne]
    by_cases hk : rkF r' = 0
    · rw [if_pos hk] at hc ⊢
      refine (hc.kept (oq _ hlt)).to fun k hk' => ?_
      have hk6 := Nat.lt_of_lt_of_le hk' (nfF_le r')
      have ht := hno (128 * r' + k)
      unfold fv vr
      rw [fk r' k i' (by omega), gL_nwI, fl _ i' (fun z => ht z.1), qU_ne (fun z => ht z.1), qU_ne (fun z => ht z.1)]
    · rw [if_neg hk] at hc ⊢
      rw [oq _ hlt, hc]
      have hl : lnS (nwI s r i) r' i' = lnS s r' i' := by
        unfold lnS
        rw [fk r' 126 i' (by decide)]
      rw [hl]
      refine congrArg some (arrV_congr fun t htt => ?_)
      unfold avP
      by_cases h6 : rkF r' = 6
      · rw [if_pos h6, if_pos h6]
      rw [if_neg h6, if_neg h6]
      unfold av
      split
      · rw [gB_nwI]
      · next e => rw [qU_ne fun z => hte r' h6 (by omega) (by omega) z.1]
      · next e => omega
      · next e => rw [qU_ne fun z => hte r' h6 (by omega) (by omega) z.1, fl _ _ fun z => hte r' h6 (by omega) (by omega) z.1]
      · next e => rw [qU_ne fun z => hte r' h6 (by omega) (by omega) z.1]
      · rw [gA_nwI, if_neg hne]
def oNwI (r : Nat) (i : Int32) (cp : Nat × Nat) (q : PL) (n : Nat) : M Unit := fun s => if q.2.1 + 1 ≤ cp.1 ∧ q.2.2 + n ≤ cp.2 then some ((), nwI s r i) else none
theorem ww_newI {X : Cx} {q : PL} {s : S1} {y : MethodName} {cc : ByteArray} {nL : Nat} {ret : Option FieldType} {fr lo : Nat} {own : String} {pc : Nat} {ls : Array Slot} {rest : List Value} {α : Type} {o : α × S1} {r N : Nat} {i n : Int32} (g : Gd X y cc nL ret fr lo own) (hr : rkF r = 1) (hln : lnF r = N) (hN : N ≠ 0 ∧ N * 4 ≤ 536870912) (hn : (0 : Int32) ≤ n ∧ n.toNatClampNeg = N) (hno : ∀ f, tgG f ≠ r) (hte : ∀ x, rkF x ≠ 6 → rkF x ≠ 7 → 5 ≤ rkF x → teF x ≠ r) (hcl : (xs X).vm.findClass "[I" = some ((xP X).2.2.1 r)) (hw : Cond.arrayClass .int ∈ wA) (hdg : decode cc pc = .ok (.newarray .int, 2)) {p0 : Nat} {j0 : Int32} (hp0 : prs s p0 j0)
    {kt : Unit → M α} (h : oB (oNwI r i ((xP X).2.2.2.1, (xP X).2.2.2.2) q N) kt s = some o) (kk : ∀ s' : S1, s' = nwI s r i → kt () s' = some o → WW X (qU q r i N) s' (pc + 2) ls (.ref ((qU q r i N).1 r i) :: rest)) : WW X q s pc ls (.int n :: rest) := by
  intro H locs hW hS
  obtain ⟨⟨hx, hb⟩, hml, hown, hts, hK, ⟨hR1, hR2, hR3, hR4⟩, -⟩ := g
  have hc : (q.2.1 + 1 ≤ (xP X).2.2.2.1 ∧ q.2.2 + N ≤ (xP X).2.2.2.2) ∧ kt () (nwI s r i) = some o := by
    unfold oB oNwI at h
    by_cases hj : q.2.1 + 1 ≤ (xP X).2.2.2.1 ∧ q.2.2 + N ≤ (xP X).2.2.2.2
    · rw [if_pos hj] at h
      exact ⟨hj, h⟩
    · rw [if_neg hj] at h
      cases h
  have e1 := hW.1
  have e2 := hW.2.1
  have hB : (xP X).1 ≤ q.2.1 := by
    obtain ⟨c1, c2, -⟩ := hW.2.2.1 p0 j0 hp0
    have := cellAt_lt c1
    omega
  refine w_grow fun z1 z2 => ?_
  refine w_tight (k := H.size - (xs X).heap.size) (n := tot H - tot (xs X).heap) (by omega) (by omega) ?_
  refine va_newaK hx hb (hts _ (List.mem_cons_of_mem _ (show Cond.arrayClass (newarray.typeOf .int) ∈ wA from hw))) rfl hdg rfl (Int32.not_lt.mpr hn.1) hn.2 hN.2 (by rw [hR3]; unfold cC; omega) (by rw [hR4]; unfold cS; omega) rfl fun H1 cA a1 a2 a3 hAr hNm => ?_
  have hcA : cA = (xP X).2.2.1 r := Option.some.inj (hNm.symm.trans hcl)
  subst hcA
  have hlS : ∀ s2 : S1, lnS s2 r i = N := fun s2 => by
    unfold lnS
    rw [hln, if_neg hN.1]
  have hW1 : Wd (xP X) (qU q r i N) (nwI s r i) H1 := by
    refine hW.push a2 a3 (by rw [tot_grow a2 a1 a3, arrV_size]) hc.1 hB ?_ (by rw [hlS]; omega) (nw_other hno hte (by omega) a3) ?_
    · unfold cellAt
      rw [if_neg (by omega), qU_at, ← e1, a1, hlS, avP_ne (by omega)]
      refine congrArg some (arrV_congr fun t ht => ?_)
      rw [av_i (Or.inl hr), gA_nwI, if_pos ⟨rfl, rfl⟩]
      rfl
    · intro r2 i2 j2 hk
      rw [gA_nwI]
      split
      · rfl
      · exact hW.2.2.2.2.2.2 r2 i2 j2 hk
  have hS1 : va_S (fun a => (xP X).1 ≤ a) (xs X).heap H1 locs := ⟨by omega, fun a b1 b2 => (a3 a (Nat.lt_of_lt_of_le b1 hS.1)).trans (hS.2.1 a b1 b2), hS.2.2⟩
  have k2 := kk _ rfl hc.2 H1 locs hW1 hS1
  rw [qU_at] at k2
  refine W.widen (k := cC (xP X) (xs X).heap.size) (n := cS (xP X) (tot (xs X).heap)) (by unfold cC; omega) (by unfold cS; omega) ?_
  rw [e1]
  exact k2
