/-! The machines while they are made: what has a number below n is there. -/
def dvN (f : Nat) : Value := match tcG f with
  | 0 => .int 0
  | 1 => .long 0
  | _ => .null
def fNn (q : PL) (n : Nat) (r : Nat) (i : Int32) (k : Nat) : Value := if eo (128 * r + k) i < n then fv q S0 r i k else dvN (128 * r + k)
def aN (P : PP) (q : PL) (n : Nat) (r : Nat) (i : Int32) (j : Nat) : Value :=
  if rkF r = 6 then (if eo (100000 + 1000 * r + j) 0 < n then .ref (P.2.2.1 (1000 + (sbF r + j))) else .null) else
  if rkF r = 5 then (if eo 200000 (Int32.ofNat j) < n then .ref (q.1 28 (Int32.ofNat j)) else .null) else av q S0 r i j
def cNn (P : PP) (q : PL) (n : Nat) (r : Nat) (i : Int32) (H : Heap) : Prop :=
  if rkF r = 0 then t_OB (q.1 r i) (P.2.1.1 (ciF r)) (nfF r) (P.2.1.2 (ciF r)) H (fNn q n r i) else H[q.1 r i]? = some (arrV (P.2.2.1 r) (lnS S0 r i) (aN P q n r i))
def pNn (n : Nat) (r : Nat) (i : Int32) : Prop := vd r i ∧ eo (128 * r + 127) i < n
def Wnn (P : PP) (q : PL) (n : Nat) (H : Heap) : Prop := H.size = q.2.1 ∧ tot H = q.2.2 ∧ (∀ r i, pNn n r i → cNn P q n r i H ∧ P.1 ≤ q.1 r i) ∧
  (∀ r i r' i', pNn n r i → pNn n r' i' → q.1 r i = q.1 r' i' → r = r' ∧ i = i') ∧ P.1 ≤ q.2.1 ∧ ∀ r i, 0 ≤ i → i.toNatClampNeg < cnF r → q.1 r i < P.2.2.2.1 → pNn n r i
/-- room for so many cells and slots -/
def Rnn (P : PP) (q : PL) (m : Nat × Nat) : Prop := q.2.1 + m.1 ≤ P.2.2.2.1 ∧ q.2.2 + m.2 ≤ P.2.2.2.2
/-- what is there stays where it is -/
def Kpp (n : Nat) (q q' : PL) : Prop := ∀ r i, pNn n r i → q'.1 r i = q.1 r i
theorem pNn.up {n n' r : Nat} {i : Int32} (h : pNn n r i) (hn : n ≤ n') : pNn n' r i := ⟨h.1, Nat.lt_of_lt_of_le h.2 hn⟩
theorem Kpp.rf {n : Nat} {q : PL} : Kpp n q q := fun _ _ _ => rfl
theorem Kpp.tr {n n' : Nat} {q q1 q2 : PL} (a : Kpp n q q1) (b : Kpp n' q1 q2) (h : n ≤ n') : Kpp n q q2 := fun r i p => (b r i (p.up h)).trans (a r i p)
theorem cN_lt {P : PP} {q : PL} {n r : Nat} {i : Int32} {H : Heap} (h : cNn P q n r i H) : q.1 r i < H.size := by
  unfold cNn at h
  by_cases h0 : rkF r = 0
  · rw [if_pos h0] at h
    obtain ⟨cell, h1, -⟩ := h
    exact (Array.getElem?_eq_some_iff.mp h1).1
  · rw [if_neg h0] at h
    exact (Array.getElem?_eq_some_iff.mp h).1
theorem ln_r6 : ∀ r, r < 160 → rkF r = 6 → lnF r ≠ 0 ∧ lnF r ≤ 1000 := by decide +kernel
theorem ln_r5 : ∀ r, r < 160 → rkF r = 5 → lnF r = 33 ∧ teF r = 28 := by decide +kernel
theorem r8_dy : ∀ r, r < 160 → (rkF r = 8 ∨ rkF r = 9) → teF r < 160 := by decide +kernel
theorem th_lt : ∀ j, j < 33 → eo (128 * 28 + 127) (Int32.ofNat j) < eo 200000 (Int32.ofNat j) ∧ (dyF 28 = false ∧ 0 ≤ Int32.ofNat j ∧ (Int32.ofNat j).toNatClampNeg < cnF 28) := by decide +kernel
/-- a field's value is the same where what it points to lies where it lay -/
theorem fv_kp {q q' : PL} {n r k : Nat} {i : Int32} (v : vd r i) (hk : k < nfF r) (hn : eo (128 * r + k) i < n) (h : ∀ r' i', pNn n r' i' → q'.1 r' i' = q.1 r' i') : fv q' S0 r i k = fv q S0 r i k := by
  unfold fv
  split
  · rfl
  · rfl
  · next e =>
    obtain ⟨a, b⟩ := v.tg hk e
    rw [h _ _ ⟨a, by omega⟩]
  · next e =>
    have z : gI S0 (128 * r + k) i = -1 := k4_ok r v.lt v.1 k hk e
    rw [z]
    rw [vr_m1, vr_m1]
  · next e =>
    have z : gI S0 (128 * tgG (128 * r + k) + 127) i = 0 := s0_127 _
    rw [z, if_neg (by decide), if_neg (by decide)]
  · rfl
theorem av_kp {q q' : PL} {r : Nat} {i : Int32} {j : Nat} (h5 : rkF r ≠ 5) (h6 : rkF r ≠ 6) : av q' S0 r i j = av q S0 r i j := by
  unfold av
  split
  · rfl
  · next e => exact absurd e h5
  · next e => exact absurd e h6
  · have z : gI S0 (128 * teF r + 127) (Int32.ofNat j) = 0 := s0_127 _
    rw [z, if_neg (by decide), if_neg (by decide)]
  · have z : gI S0 (128 * teF r + 127) (i * 200 + Int32.ofNat j) = 0 := s0_127 _
    rw [z, if_neg (by decide), if_neg (by decide)]
  · rfl
/-- another thing's cell: nothing of it has the number n -/
theorem cNn.next {P : PP} {q q' : PL} {n r : Nat} {i : Int32} {H H1 : Heap} (p : pNn n r i) (h : cNn P q n r i H) (hq : Kpp n q q') (hH : H1[q.1 r i]? = H[q.1 r i]?)
    (h1 : rkF r = 0 → ∀ k, k < nfF r → eo (128 * r + k) i ≠ n) (h2 : rkF r = 6 → ∀ j, j < lnF r → eo (100000 + 1000 * r + j) 0 ≠ n) (h3 : rkF r = 5 → ∀ j, j < 33 → eo 200000 (Int32.ofNat j) ≠ n) : cNn P q' (n + 1) r i H1 := by
  unfold cNn at h ⊢
  rw [hq r i p]
  by_cases h0 : rkF r = 0
  · rw [if_pos h0] at h ⊢
    refine (h.kept hH).to fun k hk => ?_
    have e := h1 h0 k hk
    unfold fNn
    by_cases z : eo (128 * r + k) i < n
    · rw [if_pos z, if_pos (by omega), fv_kp p.1 hk z hq]
    · rw [if_neg z, if_neg (by omega)]
  · rw [if_neg h0] at h ⊢
    rw [hH, h]
    refine congrArg some (arrV_congr fun j hj => ?_)
    unfold aN
    by_cases h6 : rkF r = 6
    · rw [if_pos h6, if_pos h6]
      obtain ⟨z1, -⟩ := ln_r6 r p.1.lt h6
      unfold lnS at hj
      rw [if_neg z1] at hj
      have e := h2 h6 j hj
      by_cases z : eo (100000 + 1000 * r + j) 0 < n
      · rw [if_pos z, if_pos (by omega)]
      · rw [if_neg z, if_neg (by omega)]
    · rw [if_neg h6, if_neg h6]
      by_cases h5 : rkF r = 5
      · rw [if_pos h5, if_pos h5]
        obtain ⟨z1, -⟩ := ln_r5 r p.1.lt h5
        unfold lnS at hj
        rw [z1] at hj
        have hj : j < 33 := hj
        have e := h3 h5 j hj
        obtain ⟨y1, y2⟩ := th_lt j hj
        by_cases z : eo 200000 (Int32.ofNat j) < n
        · rw [if_pos z, if_pos (by omega), hq 28 _ ⟨y2, by omega⟩]
        · rw [if_neg z, if_neg (by omega)]
      · rw [if_neg h5, if_neg h5, av_kp h5 h6]
theorem i0_lt : (0 : Int32).toNatClampNeg < 33 := by decide
theorem oj_lt : ∀ j, j < 33 → (Int32.ofNat j).toNatClampNeg < 33 := by decide +kernel
/-- something is made -/
theorem Wnn.new {P : PP} {q : PL} {n r N : Nat} {i : Int32} {H H1 : Heap} (h : Wnn P q n H) (v : vd r i) (hn : eo (128 * r + 127) i = n) (z : H1.size = H.size + 1) (zt : tot H1 = tot H + N) (oq : ∀ a : Nat, a < H.size → H1[a]? = H[a]?)
    (hc : cNn P (qU q r i N) (n + 1) r i H1) : Wnn P (qU q r i N) (n + 1) H1 ∧ Kpp n q (qU q r i N) := by
  obtain ⟨h1, h2, h3, h4, h5, h6⟩ := h
  have hnp : ∀ r' i', pNn n r' i' → ¬ (r' = r ∧ i' = i) := fun r' i' p e => by
    obtain ⟨rfl, rfl⟩ := e
    have := p.2
    omega
  have kp : Kpp n q (qU q r i N) := fun r' i' p => qU_ne (hnp r' i' p)
  have n0 := v.pr
  have old : ∀ r' i', pNn (n + 1) r' i' → ¬ (r' = r ∧ i' = i) → pNn n r' i' := fun r' i' p e => by
    refine ⟨p.1, ?_⟩
    have := p.2
    have hne : eo (128 * r' + 127) i' ≠ n := fun w => by
      obtain ⟨a, -, b⟩ := v.uq p.1 (k := 127) (k' := 127) (by decide) (by decide) (hn.trans w.symm) n0
      exact e ⟨a.symm, b.symm⟩
    omega
  refine ⟨⟨by show H1.size = q.2.1 + 1; omega, by show tot H1 = q.2.2 + N; omega, fun r' i' p => ?_, fun r1 i1 r2 i2 a b e => ?_, by show P.1 ≤ q.2.1 + 1; omega, fun r' i' a b c => ?_⟩, kp⟩
  · by_cases e : r' = r ∧ i' = i
    · obtain ⟨rfl, rfl⟩ := e
      exact ⟨hc, by rw [qU_at]; exact h5⟩
    · have p' := old r' i' p e
      obtain ⟨c1, c2⟩ := h3 r' i' p'
      refine ⟨c1.next p' kp (oq _ (cN_lt c1)) (fun _ k hk w => ?_) (fun e6 j hj w => ?_) (fun e5 j hj w => ?_), by rw [kp r' i' p']; exact c2⟩
      · have hk1 := nfF_le r'
        obtain ⟨-, b, -⟩ := v.uq p.1 (k := 127) (k' := k) (by decide) (by omega) (hn.trans w.symm) n0
        omega
      · obtain ⟨b, -⟩ := eo_uq v.i i0_lt (hn.trans w.symm) n0
        have := v.lt
        omega
      · obtain ⟨b, -⟩ := eo_uq v.i (oj_lt j hj) (hn.trans w.symm) n0
        have := v.lt
        omega
  · have fresh : ∀ r' i', pNn n r' i' → q.1 r' i' ≠ q.2.1 := fun r' i' p w => by
      have := cN_lt (h3 r' i' p).1
      omega
    by_cases n1 : r1 = r ∧ i1 = i
    · by_cases n2 : r2 = r ∧ i2 = i
      · exact ⟨n1.1.trans n2.1.symm, n1.2.trans n2.2.symm⟩
      · rw [n1.1, n1.2, qU_at, qU_ne n2] at e
        exact absurd e.symm (fresh r2 i2 (old r2 i2 b n2))
    · by_cases n2 : r2 = r ∧ i2 = i
      · rw [n2.1, n2.2, qU_at, qU_ne n1] at e
        exact absurd e (fresh r1 i1 (old r1 i1 a n1))
      · rw [qU_ne n1, qU_ne n2] at e
        exact h4 r1 i1 r2 i2 (old r1 i1 a n1) (old r2 i2 b n2) e
  · by_cases e : r' = r ∧ i' = i
    · obtain ⟨rfl, rfl⟩ := e
      exact ⟨v, by omega⟩
    · rw [qU_ne e] at c
      exact (h6 r' i' a b c).up (Nat.le_succ n)
/-- a field gets what it holds at the end -/
theorem Wnn.put {P : PP} {q : PL} {n r k : Nat} {i : Int32} {H H1 : Heap} (h : Wnn P q n H) (p : pNn n r i) (hr : rkF r = 0) (hk : k < nfF r) (hn : eo (128 * r + k) i = n)
    (e : t_OB (q.1 r i) (P.2.1.1 (ciF r)) (nfF r) (P.2.1.2 (ciF r)) H1 (updV (fNn q n r i) k (fv q S0 r i k))) (z : H1.size = H.size) (zt : tot H1 = tot H) (oq : ∀ a : Nat, a ≠ q.1 r i → H1[a]? = H[a]?) : Wnn P q (n + 1) H1 := by
  obtain ⟨h1, h2, h3, h4, h5, h6⟩ := h
  have hk1 := nfF_le r
  have n0 : eo (128 * r + k) i ≠ 0 := by
    have := p.1.pr
    have := p.2
    omega
  have old : ∀ r' i', pNn (n + 1) r' i' → pNn n r' i' := fun r' i' p' => by
    refine ⟨p'.1, ?_⟩
    have := p'.2
    have hne : eo (128 * r' + 127) i' ≠ n := fun w => by
      obtain ⟨-, b, -⟩ := p.1.uq p'.1 (k := k) (k' := 127) (by omega) (by decide) (hn.trans w.symm) n0
      omega
    omega
  refine ⟨z.trans h1, zt.trans h2, fun r' i' p' => ?_, fun r1 i1 r2 i2 a b => h4 r1 i1 r2 i2 (old _ _ a) (old _ _ b), h5, fun r' i' a b c => (h6 r' i' a b c).up (Nat.le_succ n)⟩
  have p' := old r' i' p'
  obtain ⟨c1, c2⟩ := h3 r' i' p'
  refine ⟨?_, c2⟩
  by_cases hq : r' = r ∧ i' = i
  · obtain ⟨rfl, rfl⟩ := hq
    unfold cNn
    rw [if_pos hr]
    refine e.to fun k' hk' => ?_
    unfold updV fNn
    by_cases e2 : k' = k
    · subst e2
      rw [if_pos rfl, if_pos (by omega)]
    · rw [if_neg e2]
      have hne : eo (128 * r' + k') i' ≠ n := fun w => by
        obtain ⟨-, b, -⟩ := p.1.uq p.1 (k := k) (k' := k') (by omega) (by omega) (hn.trans w.symm) n0
        exact e2 b.symm
      by_cases z2 : eo (128 * r' + k') i' < n
      · rw [if_pos z2, if_pos (by omega)]
      · rw [if_neg z2, if_neg (by omega)]
  · have hne : q.1 r' i' ≠ q.1 r i := fun w => hq (h4 _ _ _ _ p' p w)
    refine c1.next p' Kpp.rf (oq _ hne) (fun _ k' hk' w => ?_) (fun e6 j hj w => ?_) (fun e5 j hj w => ?_)
    · have hk2 := nfF_le r'
      obtain ⟨a, -, b⟩ := p.1.uq p'.1 (k := k) (k' := k') (by omega) (by omega) (hn.trans w.symm) n0
      exact hq ⟨a.symm, b.symm⟩
    · obtain ⟨b, -⟩ := eo_uq p.1.i i0_lt (hn.trans w.symm) n0
      have := p.1.lt
      omega
    · obtain ⟨b, -⟩ := eo_uq p.1.i (oj_lt j hj) (hn.trans w.symm) n0
      have := p.1.lt
      omega
/-- a field gets what it holds -/
theorem Wnn.same {P : PP} {q : PL} {n r k : Nat} {i : Int32} {H H1 : Heap} (h : Wnn P q n H) (p : pNn n r i) (hr : rkF r = 0)
    (e : t_OB (q.1 r i) (P.2.1.1 (ciF r)) (nfF r) (P.2.1.2 (ciF r)) H1 (updV (fNn q n r i) k (fNn q n r i k))) (z : H1.size = H.size) (zt : tot H1 = tot H) (oq : ∀ a : Nat, a ≠ q.1 r i → H1[a]? = H[a]?) : Wnn P q n H1 := by
  obtain ⟨h1, h2, h3, h4, h5, h6⟩ := h
  refine ⟨z.trans h1, zt.trans h2, fun r' i' p' => ?_, h4, h5, h6⟩
  obtain ⟨c1, c2⟩ := h3 r' i' p'
  refine ⟨?_, c2⟩
  unfold cNn at c1 ⊢
  by_cases hq : r' = r ∧ i' = i
  · obtain ⟨rfl, rfl⟩ := hq
    rw [if_pos hr]
    refine e.to fun k' hk' => ?_
    unfold updV
    by_cases e2 : k' = k
    · subst e2
      rw [if_pos rfl]
    · rw [if_neg e2]
  · have hne : q.1 r' i' ≠ q.1 r i := fun w => hq (h4 _ _ _ _ p' p w)
    by_cases h0 : rkF r' = 0
    · rw [if_pos h0] at c1 ⊢
      exact c1.kept (oq _ hne)
    · rw [if_neg h0] at c1 ⊢
      rw [oq _ hne]
      exact c1
/-- an element gets what it holds at the end -/
theorem Wnn.elt {P : PP} {q : PL} {n r j : Nat} {f : Nat} {fi : Int32} {H H1 : Heap} {w : Value} (h : Wnn P q n H) (p : pNn n r 0) (hf : (rkF r = 6 ∧ f = 100000 + 1000 * r + j ∧ fi = 0 ∧ w = .ref (P.2.2.1 (1000 + (sbF r + j))) ∧ j < lnF r ∧ r < 100) ∨ (rkF r = 5 ∧ f = 200000 ∧ fi = Int32.ofNat j ∧ w = .ref (q.1 28 (Int32.ofNat j)) ∧ j < 33)) (hn : eo f fi = n)
    (e : H1[q.1 r 0]? = some ((arrV (P.2.2.1 r) (lnS S0 r 0) (aN P q n r 0)).setSlot j w)) (z : H1.size = H.size) (oq : ∀ a : Nat, a ≠ q.1 r 0 → H1[a]? = H[a]?) : Wnn P q (n + 1) H1 := by
  obtain ⟨h1, h2, h3, h4, h5, h6⟩ := h
  have hn0 : rkF r ≠ 0 := by rcases hf with ⟨a, -⟩ | ⟨a, -⟩ <;> omega
  have hc0 := (h3 r 0 p).1
  unfold cNn at hc0
  rw [if_neg hn0] at hc0
  have n0 : eo f fi ≠ 0 := by
    have := p.1.pr
    have := p.2
    omega
  have hfi : fi.toNatClampNeg < 33 := by
    rcases hf with ⟨-, -, rfl, -⟩ | ⟨-, -, rfl, -, hj⟩
    · decide
    · exact oj_lt j hj
  have hbig : 100000 ≤ f := by rcases hf with ⟨-, rfl, -⟩ | ⟨-, rfl, -⟩ <;> omega
  have fld : ∀ r' i' k, vd r' i' → k < 128 → eo (128 * r' + k) i' ≠ n := fun r' i' k v' hk w => by
    obtain ⟨b, -⟩ := eo_uq hfi v'.i (hn.trans w.symm) n0
    have := v'.lt
    omega
  have old : ∀ r' i', pNn (n + 1) r' i' → pNn n r' i' := fun r' i' p' => by
    refine ⟨p'.1, ?_⟩
    have := p'.2
    have := fld r' i' 127 p'.1 (by decide)
    omega
  refine ⟨z.trans h1, (tot_put hc0 e (by rw [arrV_store, arrV_size, arrV_size]) z oq).trans h2, fun r' i' p' => ?_, fun r1 i1 r2 i2 a b => h4 r1 i1 r2 i2 (old _ _ a) (old _ _ b), h5, fun r' i' a b c => (h6 r' i' a b c).up (Nat.le_succ n)⟩
  have p' := old r' i' p'
  obtain ⟨c1, c2⟩ := h3 r' i' p'
  refine ⟨?_, c2⟩
  by_cases hq : r' = r ∧ i' = 0
  · obtain ⟨rfl, rfl⟩ := hq
    unfold cNn
    rw [if_neg hn0, e, arrV_store]
    refine congrArg some (arrV_congr fun t ht => ?_)
    unfold updV
    rcases hf with ⟨e6, rfl, rfl, rfl, hj, hr1⟩ | ⟨e5, rfl, rfl, rfl, hj⟩
    · unfold aN
      rw [if_pos e6]
      obtain ⟨z1, z2⟩ := ln_r6 r' p.1.lt e6
      unfold lnS at ht
      rw [if_neg z1] at ht
      by_cases et : t = j
      · subst et
        rw [if_pos rfl, if_pos e6, if_pos (by omega)]
      · rw [if_neg et, if_pos e6]
        have hne : eo (100000 + 1000 * r' + t) 0 ≠ n := fun w => by
          obtain ⟨b, -⟩ := eo_uq i0_lt i0_lt (hn.trans w.symm) n0
          omega
        by_cases z3 : eo (100000 + 1000 * r' + t) 0 < n
        · rw [if_pos z3, if_pos (by omega)]
        · rw [if_neg z3, if_neg (by omega)]
    · have e6 : rkF r' ≠ 6 := by omega
      obtain ⟨z1, -⟩ := ln_r5 r' p.1.lt e5
      unfold lnS at ht
      rw [z1] at ht
      have ht : t < 33 := ht
      unfold aN
      rw [if_neg e6, if_pos e5]
      by_cases et : t = j
      · subst et
        rw [if_pos rfl, if_neg e6, if_pos e5, if_pos (by omega)]
      · rw [if_neg et, if_neg e6, if_pos e5]
        have hne : eo 200000 (Int32.ofNat t) ≠ n := fun w => by
          obtain ⟨-, b⟩ := eo_uq (oj_lt j hj) (oj_lt t ht) (hn.trans w.symm) n0
          have b := b (Or.inr rfl)
          have a1 := nI_clamp (n := j) (by omega)
          have a2 := nI_clamp (n := t) (by omega)
          apply et
          have a1 : (Int32.ofNat j).toNatClampNeg = j := a1
          have a2 : (Int32.ofNat t).toNatClampNeg = t := a2
          omega
        by_cases z3 : eo 200000 (Int32.ofNat t) < n
        · rw [if_pos z3, if_pos (by omega)]
        · rw [if_neg z3, if_neg (by omega)]
  · have hne : q.1 r' i' ≠ q.1 r 0 := fun w => hq (h4 _ _ _ _ p' p w)
    refine c1.next p' Kpp.rf (oq _ hne) (fun _ k' hk' => fld r' i' k' p'.1 (by have := nfF_le r'; omega)) (fun e6 t ht w => ?_) (fun e5 t ht w => ?_)
    · obtain ⟨b, -⟩ := eo_uq hfi i0_lt (hn.trans w.symm) n0
      obtain ⟨z1, z2⟩ := ln_r6 r' p'.1.lt e6
      rcases hf with ⟨q6, rfl, -, -, hj, hr1⟩ | ⟨-, rfl, -⟩
      · obtain ⟨y1, y2⟩ := ln_r6 r p.1.lt q6
        have e1 : r' = r := by omega
        subst e1
        have hc1 := cn_ok r' p'.1.lt p'.1.1
        have i1 := p'.1.2.2
        have hr6 : r' < 19 ∨ 40 < r' := (by decide +kernel : ∀ r, r < 160 → rkF r = 6 → r < 19 ∨ 40 < r) r' p'.1.lt e6
        have i0 : i'.toNatClampNeg = (0 : Int32).toNatClampNeg := by
          show _ = 0
          rcases hc1 with ⟨q1, q2⟩ | ⟨q1, q2⟩
          · exfalso; omega
          · omega
        exact hq ⟨rfl, clamp_ij p'.1.2.1 (by decide) i0⟩
      · have := p'.1.lt
        have : r' < 100 := (by decide +kernel : ∀ r, r < 160 → rkF r = 6 → r < 100) r' p'.1.lt e6
        omega
    · obtain ⟨b, -⟩ := eo_uq hfi (oj_lt t ht) (hn.trans w.symm) n0
      rcases hf with ⟨q1, rfl, -, -, hj, hr1⟩ | ⟨q1, -⟩
      · obtain ⟨y1, y2⟩ := ln_r6 r p.1.lt q1
        omega
      · have e1 : ∀ r, r < 160 → rkF r = 5 → r = 76 := by decide +kernel
        have e2 := e1 r p.1.lt q1
        have e3 := e1 r' p'.1.lt e5
        subst e2
        subst e3
        have i1 := p'.1.2.2
        have : cnF 76 = 1 := rfl
        exact hq ⟨rfl, clamp_ij p'.1.2.1 (by decide) (by show _ = 0; omega)⟩
