/-! What lies at a role's place: an object's fields, a row's elements. -/
abbrev PP : Type := Nat × va_G × (Nat → ClassId) × Nat × Nat
def prs (s : S1) (r : Nat) (i : Int32) : Prop := (dyF r = true → gI s (128 * r + 127) i = 1) ∧ 0 ≤ i ∧ i.toNatClampNeg < cnF r
def lnS (s : S1) (r : Nat) (i : Int32) : Nat := if lnF r = 0 then (gI s (128 * r + 126) i).toNatClampNeg else lnF r
/-- one of a role, or none -/
def vr (q : PL) (r : Nat) (x : Int32) : Value := if x = -1 then .null else .ref (q.1 r x)
def fv (q : PL) (s : S1) (r : Nat) (i : Int32) (k : Nat) : Value := match tcG (128 * r + k) with
  | 0 => .int (gI s (128 * r + k) i)
  | 1 => .long (gL s (128 * r + k) i)
  | 2 => .ref (q.1 (tgG (128 * r + k)) i)
  | 4 => vr q (tgG (128 * r + k)) (gI s (128 * r + k) i)
  | 5 => if gI s (128 * tgG (128 * r + k) + 127) i = 1 then .ref (q.1 (tgG (128 * r + k)) i) else .null
  | _ => .null
def av (q : PL) (s : S1) (r : Nat) (i : Int32) (j : Nat) : Value := match rkF r with
  | 4 => .long (gB s r i (Int32.ofNat j))
  | 5 => .ref (q.1 (teF r) (Int32.ofNat j))
  | 6 => .ref (q.1 (teF r) (Int32.ofNat j))
  | 8 => if gI s (128 * teF r + 127) (Int32.ofNat j) = 1 then .ref (q.1 (teF r) (Int32.ofNat j)) else .null
  | 9 => if gI s (128 * teF r + 127) (i * 200 + Int32.ofNat j) = 1 then .ref (q.1 (teF r) (i * 200 + Int32.ofNat j)) else .null
  | _ => .int (gA s r i (Int32.ofNat j))
/-- the rows of texts hold String constants -/
def avP (P : PP) (q : PL) (s : S1) (r : Nat) (i : Int32) : Nat → Value := if rkF r = 6 then fun j => .ref (P.2.2.1 (1000 + (sbF r + j))) else av q s r i
theorem avP_ne {P : PP} {q : PL} {s : S1} {r : Nat} {i : Int32} (h : rkF r ≠ 6) : avP P q s r i = av q s r i := if_neg h
def cellAt (P : PP) (q : PL) (s : S1) (r : Nat) (i : Int32) (H : Heap) : Prop :=
  if rkF r = 0 then t_OB (q.1 r i) (P.2.1.1 (ciF r)) (nfF r) (P.2.1.2 (ciF r)) H (fv q s r i) else H[q.1 r i]? = some (arrV (P.2.2.1 r) (lnS s r i) (avP P q s r i))
/-- what is there with a coroutine: its rows, its frames -/
def Kd (s : S1) : Prop := ∀ i : Int32, prs s 148 i → prs s 149 i ∧ prs s 150 i ∧ prs s 151 i ∧ ∀ j : Int32, 0 ≤ j ∧ j < 200 → prs s 152 (i * 200 + j)
theorem Kd.of {s s' : S1} (e : ∀ r i, prs s' r i ↔ prs s r i) (h : Kd s) : Kd s' := fun i hi => by
  obtain ⟨a, b, c, d⟩ := h i ((e _ _).mp hi)
  exact ⟨(e _ _).mpr a, (e _ _).mpr b, (e _ _).mpr c, fun j hj => (e _ _).mpr (d j hj)⟩
def Wd (P : PP) (q : PL) (s : S1) (H : Heap) : Prop := H.size = q.2.1 ∧ tot H = q.2.2 ∧ (∀ (r : Nat) (i : Int32), prs s r i → cellAt P q s r i H ∧ P.1 ≤ q.1 r i ∧ lnS s r i < 2147483648) ∧
  (∀ (r : Nat) (i : Int32) (r' : Nat) (i' : Int32), prs s r i → prs s r' i' → q.1 r i = q.1 r' i' → r = r' ∧ i = i') ∧ q.2.1 ≤ P.2.2.2.1 ∧ q.2.2 ≤ P.2.2.2.2 ∧ (∀ (r : Nat) (i j : Int32), rkF r = 2 → fits .byte (.int (gA s r i j)) = true) ∧
  (∀ (r : Nat) (i : Int32), 0 ≤ i → i.toNatClampNeg < cnF r → q.1 r i < P.2.2.2.1 → prs s r i) ∧ Kd s
theorem nfF_le (r : Nat) : nfF r ≤ 126 := by
  unfold nfF
  split <;> decide
theorem gI_ne {s : S1} {f f' : Nat} {i i' x : Int32} (h : ¬ (f' = f ∧ i' = i)) : gI (sI s f i x) f' i' = gI s f' i' := by rw [gI_sI, if_neg h]
theorem gL_ne {s : S1} {f f' : Nat} {i i' : Int32} {x : Int64} (h : ¬ (f' = f ∧ i' = i)) : gL (sL s f i x) f' i' = gL s f' i' := by rw [gL_sL, if_neg h]
theorem fv_sI_ne (q : PL) (s : S1) {r r' k k' : Nat} {i i' x : Int32} (hk : k < 126) (hk' : k' < 126) (h : ¬ (r' = r ∧ k' = k ∧ i' = i)) : fv q (sI s (128 * r + k) i x) r' i' k' = fv q s r' i' k' := by
  have h1 : gI (sI s (128 * r + k) i x) (128 * r' + k') i' = gI s (128 * r' + k') i' := gI_ne (by rintro ⟨a, b⟩; exact h ⟨by omega, by omega, b⟩)
  have h2 : ∀ t, gI (sI s (128 * r + k) i x) (128 * t + 127) i' = gI s (128 * t + 127) i' := fun t => gI_ne (by rintro ⟨a, b⟩; omega)
  unfold fv
  simp only [h1, h2, gL_sI]
theorem fv_sL_ne (q : PL) (s : S1) {r r' k k' : Nat} {i i' : Int32} {x : Int64} (hk : k < 126) (hk' : k' < 126) (h : ¬ (r' = r ∧ k' = k ∧ i' = i)) : fv q (sL s (128 * r + k) i x) r' i' k' = fv q s r' i' k' := by
  have h1 : gL (sL s (128 * r + k) i x) (128 * r' + k') i' = gL s (128 * r' + k') i' := gL_ne (by rintro ⟨a, b⟩; exact h ⟨by omega, by omega, b⟩)
  unfold fv
  simp only [h1, gI_sL]
  rfl
theorem prs_sI {s : S1} {r k : Nat} {i x : Int32} (hk : k < 126) {r' : Nat} {i' : Int32} : prs (sI s (128 * r + k) i x) r' i' ↔ prs s r' i' := by
  unfold prs
  rw [gI_ne (by rintro ⟨a, b⟩; omega)]
theorem lnS_sI {s : S1} {r k : Nat} {i x : Int32} (hk : k < 126) {r' : Nat} {i' : Int32} : lnS (sI s (128 * r + k) i x) r' i' = lnS s r' i' := by
  unfold lnS
  rw [gI_ne (by rintro ⟨a, b⟩; omega)]
theorem av_sI {q : PL} {s : S1} {r k : Nat} {i x : Int32} (hk : k < 126) {r' : Nat} {i' : Int32} : av q (sI s (128 * r + k) i x) r' i' = av q s r' i' := by
  have h2 : ∀ t j, gI (sI s (128 * r + k) i x) (128 * t + 127) j = gI s (128 * t + 127) j := fun t j => gI_ne (by rintro ⟨a, b⟩; omega)
  funext j
  unfold av
  simp only [h2, gA_sI, gB_sI]
/-- an int field of an object is written -/
theorem Wd.putI {P : PP} {q : PL} {s : S1} {H H1 : Heap} {r k : Nat} {i x : Int32} (h : Wd P q s H) (hp : prs s r i) (hr : rkF r = 0) (hk : k < 126)
    (e : t_OB (q.1 r i) (P.2.1.1 (ciF r)) (nfF r) (P.2.1.2 (ciF r)) H1 (updV (fv q s r i) k (fv q (sI s (128 * r + k) i x) r i k))) (z : H1.size = H.size) (zt : tot H1 = tot H) (oq : ∀ a : Nat, a ≠ q.1 r i → H1[a]? = H[a]?) : Wd P q (sI s (128 * r + k) i x) H1 := by
  obtain ⟨h1, h2, h3, h4, h5⟩ := h
  refine ⟨z.trans h1, zt.trans h2, fun r' i' hp' => ?_, fun r1 i1 r2 i2 a b => h4 r1 i1 r2 i2 ((prs_sI hk).mp a) ((prs_sI hk).mp b), h5.1, h5.2.1, h5.2.2.1, fun r' i' a b c => (prs_sI hk).mpr (h5.2.2.2.1 r' i' a b c), h5.2.2.2.2.of fun _ _ => prs_sI hk⟩
  have hp2 := (prs_sI hk).mp hp'
  obtain ⟨c1, c2, c3⟩ := h3 r' i' hp2
  refine ⟨?_, c2, by rw [lnS_sI hk]; exact c3⟩
  by_cases hq : r' = r ∧ i' = i
  · obtain ⟨rfl, rfl⟩ := hq
    unfold cellAt
    rw [if_pos hr]
    refine e.to fun k' hk' => ?_
    by_cases e2 : k' = k
    · subst e2
      simp [updV]
    · simp only [updV, if_neg e2]
      exact (fv_sI_ne q s hk (Nat.lt_of_lt_of_le hk' (nfF_le _)) (fun z => e2 z.2.1)).symm
  · have hne : q.1 r' i' ≠ q.1 r i := fun z => hq (h4 _ _ _ _ hp2 hp z)
    unfold cellAt at c1 ⊢
    by_cases h0 : rkF r' = 0
    · rw [if_pos h0] at c1 ⊢
      refine (c1.kept (oq _ hne)).to fun k' hk' => ?_
      exact (fv_sI_ne q s hk (Nat.lt_of_lt_of_le hk' (nfF_le _)) (fun z => hq ⟨z.1, z.2.2⟩)).symm
    · rw [if_neg h0] at c1 ⊢
      rw [oq _ hne, c1, lnS_sI hk]
      unfold avP
      rw [av_sI hk]
theorem Wd.putL {P : PP} {q : PL} {s : S1} {H H1 : Heap} {r k : Nat} {i : Int32} {x : Int64} (h : Wd P q s H) (hp : prs s r i) (hr : rkF r = 0) (hk : k < 126)
    (e : t_OB (q.1 r i) (P.2.1.1 (ciF r)) (nfF r) (P.2.1.2 (ciF r)) H1 (updV (fv q s r i) k (fv q (sL s (128 * r + k) i x) r i k))) (z : H1.size = H.size) (zt : tot H1 = tot H) (oq : ∀ a : Nat, a ≠ q.1 r i → H1[a]? = H[a]?) : Wd P q (sL s (128 * r + k) i x) H1 := by
  obtain ⟨h1, h2, h3, h4, h5⟩ := h
  refine ⟨z.trans h1, zt.trans h2, fun r' i' hp' => ?_, fun r1 i1 r2 i2 a b => h4 r1 i1 r2 i2 a b, h5⟩
  have hp2 : prs s r' i' := hp'
  obtain ⟨c1, c2, c3⟩ := h3 r' i' hp2
  refine ⟨?_, c2, c3⟩
  by_cases hq : r' = r ∧ i' = i
  · obtain ⟨rfl, rfl⟩ := hq
    unfold cellAt
    rw [if_pos hr]
    refine e.to fun k' hk' => ?_
    by_cases e2 : k' = k
    · subst e2
      simp [updV]
    · simp only [updV, if_neg e2]
      exact (fv_sL_ne q s hk (Nat.lt_of_lt_of_le hk' (nfF_le _)) (fun z => e2 z.2.1)).symm
  · have hne : q.1 r' i' ≠ q.1 r i := fun z => hq (h4 _ _ _ _ hp2 hp z)
    unfold cellAt at c1 ⊢
    by_cases h0 : rkF r' = 0
    · rw [if_pos h0] at c1 ⊢
      refine (c1.kept (oq _ hne)).to fun k' hk' => ?_
      exact (fv_sL_ne q s hk (Nat.lt_of_lt_of_le hk' (nfF_le _)) (fun z => hq ⟨z.1, z.2.2⟩)).symm
    · rw [if_neg h0] at c1 ⊢
      rw [oq _ hne]
      exact c1
theorem arrV_congr {c : ClassId} {n : Nat} {f g : Nat → Value} (h : ∀ j, j < n → f j = g j) : arrV c n f = arrV c n g := by
  unfold arrV
  congr 1
  congr 1
  funext j
  exact h j.1 j.2
theorem i_of_clamp {j : Int32} (h : 0 ≤ j) : Int32.ofNat j.toNatClampNeg = j := by
  have h0 : (0 : Int) ≤ j.toInt := by simpa using Int32.le_iff_toInt_le.mp h
  have h1 : j.toNatClampNeg = j.toInt.toNat := rfl
  have h2 := Int32.toInt_lt j
  apply Int32.toInt_inj.mp
  have h3 := nI_toInt (n := j.toNatClampNeg) (by omega)
  show (nI _).toInt = _
  omega
theorem i_ne {q : Nat} {j : Int32} (hq : q < 2147483648) (h : q ≠ j.toNatClampNeg) : Int32.ofNat q ≠ j := by
  intro e
  apply h
  rw [← e]
  exact (nI_clamp (by omega)).symm
/-- an element of a row of ints is written -/
theorem Wd.putA {P : PP} {q : PL} {s : S1} {H H1 : Heap} {r : Nat} {i j x : Int32} (h : Wd P q s H) (hp : prs s r i) (hr : rkF r = 1 ∨ rkF r = 2 ∨ rkF r = 3) (hfx : rkF r = 2 → fits .byte (.int x) = true) (hj : 0 ≤ j)
    (e : H1[q.1 r i]? = some ((arrV (P.2.2.1 r) (lnS s r i) (av q s r i)).setSlot j.toNatClampNeg (.int x))) (z : H1.size = H.size) (oq : ∀ a : Nat, a ≠ q.1 r i → H1[a]? = H[a]?) : Wd P q (sA s r i j x) H1 := by
  obtain ⟨h1, h2, h3, h4, h5⟩ := h
  have hn0 : rkF r ≠ 0 := by omega
  have hcell := (h3 r i hp).1
  unfold cellAt at hcell
  rw [if_neg hn0] at hcell
  refine ⟨z.trans h1, (tot_put hcell e (by rw [arrV_store, arrV_size, arrV_size]) z oq).trans h2, fun r' i' hp' => ?_, fun r1 i1 r2 i2 a b => h4 r1 i1 r2 i2 a b, h5.1, h5.2.1, fun r2 i2 j2 hk => by
    rw [gA_sA]
    split
    · next e => exact hfx (e.1 ▸ hk)
    · exact h5.2.2.1 r2 i2 j2 hk, h5.2.2.2⟩
  have hp2 : prs s r' i' := hp'
  obtain ⟨c1, c2, c3⟩ := h3 r' i' hp2
  refine ⟨?_, c2, c3⟩
  by_cases hq : r' = r ∧ i' = i
  · obtain ⟨rfl, rfl⟩ := hq
    unfold cellAt
    rw [if_neg hn0, e, arrV_store, avP_ne (by omega)]
    refine congrArg some (arrV_congr fun t ht => ?_)
    have hav : ∀ s2 : S1, av q s2 r' i' t = .int (gA s2 r' i' (Int32.ofNat t)) := fun s2 => by
      unfold av
      rcases hr with hr | hr | hr <;> rw [hr] <;> rfl
    rw [hav, gA_sA]
    by_cases et : t = j.toNatClampNeg
    · subst et
      simp [updV, i_of_clamp hj]
    · have := i_ne (Nat.lt_trans ht c3) et
      simp [updV, et, hav, this]
  · have hne : q.1 r' i' ≠ q.1 r i := fun z => hq (h4 _ _ _ _ hp2 hp z)
    unfold cellAt at c1 ⊢
    by_cases h0 : rkF r' = 0
    · rw [if_pos h0] at c1 ⊢
      exact c1.kept (oq _ hne)
    · rw [if_neg h0] at c1 ⊢
      rw [oq _ hne, c1]
      refine congrArg some (arrV_congr fun t ht => ?_)
      unfold avP
      by_cases h6 : rkF r' = 6
      · rw [if_pos h6, if_pos h6]
      rw [if_neg h6, if_neg h6]
      unfold av
      split
      all_goals first | rfl | (rw [gA_sA, if_neg (fun w => hq ⟨w.1, w.2.1⟩)])
theorem Wd.putB {P : PP} {q : PL} {s : S1} {H H1 : Heap} {r : Nat} {i j : Int32} {x : Int64} (h : Wd P q s H) (hp : prs s r i) (hr : rkF r = 4) (hj : 0 ≤ j)
    (e : H1[q.1 r i]? = some ((arrV (P.2.2.1 r) (lnS s r i) (av q s r i)).setSlot j.toNatClampNeg (.long x))) (z : H1.size = H.size) (oq : ∀ a : Nat, a ≠ q.1 r i → H1[a]? = H[a]?) : Wd P q (sB s r i j x) H1 := by
  obtain ⟨h1, h2, h3, h4, h5⟩ := h
  have hn0 : rkF r ≠ 0 := by omega
  have hcell := (h3 r i hp).1
  unfold cellAt at hcell
  rw [if_neg hn0] at hcell
  refine ⟨z.trans h1, (tot_put hcell e (by rw [arrV_store, arrV_size, arrV_size]) z oq).trans h2, fun r' i' hp' => ?_, fun r1 i1 r2 i2 a b => h4 r1 i1 r2 i2 a b, h5⟩
  have hp2 : prs s r' i' := hp'
  obtain ⟨c1, c2, c3⟩ := h3 r' i' hp2
  refine ⟨?_, c2, c3⟩
  by_cases hq : r' = r ∧ i' = i
  · obtain ⟨rfl, rfl⟩ := hq
    unfold cellAt
    rw [if_neg hn0, e, arrV_store, avP_ne (by omega)]
    refine congrArg some (arrV_congr fun t ht => ?_)
    have hav : ∀ s2 : S1, av q s2 r' i' t = .long (gB s2 r' i' (Int32.ofNat t)) := fun s2 => by
      unfold av
      rw [hr]
      rfl
    rw [hav, gB_sB]
    by_cases et : t = j.toNatClampNeg
    · subst et
      simp [updV, i_of_clamp hj]
    · have := i_ne (Nat.lt_trans ht c3) et
      simp [updV, et, hav, this]
  · have hne : q.1 r' i' ≠ q.1 r i := fun z => hq (h4 _ _ _ _ hp2 hp z)
    unfold cellAt at c1 ⊢
    by_cases h0 : rkF r' = 0
    · rw [if_pos h0] at c1 ⊢
      exact c1.kept (oq _ hne)
    · rw [if_neg h0] at c1 ⊢
      rw [oq _ hne, c1]
      refine congrArg some (arrV_congr fun t ht => ?_)
      unfold avP
      by_cases h6 : rkF r' = 6
      · rw [if_pos h6, if_pos h6]
      rw [if_neg h6, if_neg h6]
      unfold av
      split
      all_goals first | rfl | (rw [gB_sB, if_neg (fun w => hq ⟨w.1, w.2.1⟩)])
