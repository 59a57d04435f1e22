/-! The class: the pool's pieces; the free places; the heap as a whole. -/
def sz (s : S1) (p : Int32) : Int := if cOw s p < 0 then -(cOw s p).toInt else (cR s (cOw s p)).toInt
/-- the pool is tiled; W: how much of it is owned before a piece -/
def cPoW (s : S1) (S : Int32 → Prop) (W : Int32 → Int) : Prop :=
  (0 ≤ (cTop s).toInt ∧ (cTop s).toInt ≤ 50000) ∧ (W 0 = 0 ∧ (0 < (cTop s).toInt → S 0)) ∧
  (∀ p, S p → (0 ≤ p.toInt ∧ 1 ≤ sz s p ∧ p.toInt + sz s p ≤ (cTop s).toInt) ∧ (∀ p', p'.toInt = p.toInt + sz s p → (p'.toInt < (cTop s).toInt → S p') ∧ W p' = W p + if cOw s p < 0 then 0 else sz s p) ∧ (0 ≤ cOw s p → cLv false s (cOw s p) 5 ∧ cS0 s (cOw s p) = p)) ∧
  (∀ p q, S p → S q → p.toInt < q.toInt → p.toInt + sz s p ≤ q.toInt) ∧
  (∀ x, cLv false s x 5 → 0 < (cR s x).toInt → S (cS0 s x) ∧ cOw s (cS0 s x) = x) ∧
  W (cTop s) = (cTl s 6).toInt ∧
  ∀ p q, S p ∨ p = cTop s → S q ∨ q = cTop s → p.toInt ≤ q.toInt → W p ≤ W q ∧ W q - W p ≤ q.toInt - p.toInt
def cPo (s : S1) : Prop := ∃ S W, cPoW s S W
theorem toInt_inj {a b : Int32} (h : a.toInt = b.toInt) : a = b := Int32.toInt_inj.1 h
theorem ofInt_toInt {n : Int} (h : 0 ≤ n ∧ n ≤ 100000) : (Int32.ofInt n).toInt = n := Int32.toInt_ofInt_of_le (by omega) (by omega)
/-- a table goes: its piece is free -/
theorem cPo.free {s t : S1} {x : Int32} (h : cPo s) (hx : cLv false s x 5) (hr : 0 ≤ (cR s x).toInt ∧ (cR s x).toInt ≤ 50000) (en : cN t = cN s) (et : ∀ y, cTy t y = if y = x then 0 else cTy s y) (eS : ∀ y, cS0 t y = cS0 s y) (eR : ∀ y, cR t y = cR s y) (etop : cTop t = cTop s)
    (eo : ∀ p, cOw t p = if 0 < (cR s x).toInt ∧ p = cS0 s x then -cR s x else cOw s p) (e6 : (cTl t 6).toInt = (cTl s 6).toInt - (cR s x).toInt) : cPo t := by
  obtain ⟨S, W, h1, ⟨h2, h2'⟩, h3, h4, h5, h6, h7⟩ := h
  have e0 : (0 : Int32).toInt = 0 := rfl
  have nx : ∀ y u, u ≠ 0 → (cLv false t y u ↔ (cLv false s y u ∧ y ≠ x)) := fun y u u0 => by
    unfold cLv
    rw [en, et]
    by_cases q : y = x
    · simp only [q, if_true, ne_eq, not_true_eq_false, and_false, iff_false]
      rintro ⟨-, a, -⟩
      exact u0 a.symm
    · simp [q]
  by_cases r0 : 0 < (cR s x).toInt
  · obtain ⟨sx, ox⟩ := h5 x hx r0
    have x0 : ¬ cOw s (cS0 s x) < 0 := by
      rw [ox, i32_lt]
      have := hx.1.1
      rw [i32_le] at this
      omega
    have szx : sz s (cS0 s x) = (cR s x).toInt := by
      unfold sz
      rw [if_neg x0, ox]
    have neg : (-cR s x).toInt = -(cR s x).toInt := by
      rw [show -cR s x = 0 - cR s x from (Int32.zero_sub _).symm, ktI_sub (by omega)]
      omega
    have eo' : ∀ p, cOw t p = if p = cS0 s x then -cR s x else cOw s p := fun p => by
      rw [eo]
      simp [r0]
    have esz : ∀ p, S p → sz t p = sz s p := fun p sp => by
      by_cases q : p = cS0 s x
      · subst q
        rw [szx]
        unfold sz
        rw [eo', if_pos rfl, if_pos (by rw [i32_lt, neg]; omega), neg]
        omega
      · unfold sz
        rw [eo', if_neg q]
        by_cases w : cOw s p < 0
        · rw [if_pos w, if_pos w]
        · rw [if_neg w, if_neg w, eR]
    have neo : cOw t (cS0 s x) < 0 := by
      rw [eo', if_pos rfl, i32_lt, neg]
      omega
    obtain ⟨⟨x1, x2, x3⟩, x4, x5⟩ := h3 _ sx
    rw [szx] at x2 x3 x4
    have xp : (Int32.ofInt ((cS0 s x).toInt + (cR s x).toInt)).toInt = (cS0 s x).toInt + (cR s x).toInt := ofInt_toInt (by omega)
    have xn := x4 _ xp
    rw [if_neg x0] at xn
    generalize Int32.ofInt ((cS0 s x).toInt + (cR s x).toInt) = xe at xp xn
    have xe2 : S xe ∨ xe = cTop s := by
      by_cases w : xe.toInt < (cTop s).toInt
      · exact .inl (xn.1 w)
      · exact .inr (toInt_inj (by omega))
    obtain ⟨W', hW⟩ : ∃ W' : Int32 → Int, ∀ p, W' p = if (cS0 s x).toInt < p.toInt then W p - (cR s x).toInt else W p := ⟨_, fun _ => rfl⟩
    have lo : ∀ p, p.toInt ≤ (cS0 s x).toInt → W' p = W p := fun p l => by rw [hW, if_neg (by omega)]
    have hi : ∀ p, (cS0 s x).toInt < p.toInt → W' p = W p - (cR s x).toInt := fun p l => by rw [hW, if_pos l]
    clear hW
    refine ⟨S, W', ?_⟩
    unfold cPoW
    rw [etop]
    refine ⟨h1, ⟨by rw [lo 0 (by omega)]; exact h2, h2'⟩, fun p sp => ?_, fun p q sp sq l => ?_, fun y hy ry => ?_, ?_, fun p q sp sq l => ?_⟩
    · obtain ⟨a1, a2, a3⟩ := h3 p sp
      rw [esz p sp]
      refine ⟨a1, fun p' e => ⟨(a2 p' e).1, ?_⟩, fun o => ?_⟩
      · have w := (a2 p' e).2
        by_cases q : p = cS0 s x
        · subst q
          rw [if_neg x0] at w
          rw [if_pos neo, hi p' (by omega), lo _ (Int.le_refl _)]
          omega
        · have eq : cOw t p = cOw s p := by rw [eo', if_neg q]
          rw [eq]
          have ne : p.toInt ≠ (cS0 s x).toInt := fun z => q (toInt_inj z)
          by_cases l : p.toInt < (cS0 s x).toInt
          · have := h4 p _ sp sx l
            rw [lo p' (by omega), lo p (by omega)]
            exact w
          · have := a1.2.1
            rw [hi p' (by omega), hi p (by omega)]
            generalize (if cOw s p < 0 then (0 : Int) else sz s p) = z at w ⊢
            omega
      · by_cases q : p = cS0 s x
        · subst q
          rw [i32_le] at o
          rw [i32_lt] at neo
          omega
        · have eq : cOw t p = cOw s p := by rw [eo', if_neg q]
          rw [eq] at o ⊢
          have w := a3 o
          refine ⟨(nx _ _ (by decide)).2 ⟨w.1, fun z => q ?_⟩, ?_⟩
          · rw [← w.2, z]
          · rw [eS]
            exact w.2
    · rw [esz p sp]
      exact h4 p q sp sq l
    · have w := (nx y 5 (by decide)).1 hy
      rw [eR] at ry
      have v := h5 y w.1 ry
      rw [eS]
      refine ⟨v.1, ?_⟩
      rw [eo', if_neg ?_]
      · exact v.2
      · intro z
        rw [z, ox] at v
        exact w.2 v.2.symm
    · rw [hi _ (by omega), h6, e6]
    · have w := h7 p q sp sq l
      have z := h7 _ _ (.inl sx) xe2 (by omega)
      by_cases a : (cS0 s x).toInt < q.toInt
      · by_cases b : (cS0 s x).toInt < p.toInt
        · rw [hi _ a, hi _ b]
          omega
        · rw [hi _ a, lo p (by omega)]
          have lq : xe.toInt ≤ q.toInt := by
            rcases sq with sq | sq
            · have := h4 _ q sx sq a
              rw [szx] at this
              omega
            · rw [sq]
              omega
          have v1 := h7 xe q xe2 sq lq
          have v2 := h7 p _ sp (.inl sx) (by omega)
          omega
      · rw [lo q (by omega), lo p (by omega)]
        exact w
  · have r0' : (cR s x).toInt = 0 := by omega
    have eo' : ∀ p, cOw t p = cOw s p := fun p => by
      rw [eo]
      simp [r0]
    have esz : ∀ p, sz t p = sz s p := fun p => by
      unfold sz
      rw [eo', eR]
    refine ⟨S, W, ?_⟩
    unfold cPoW
    rw [etop]
    refine ⟨h1, ⟨h2, h2'⟩, fun p sp => ?_, fun p q sp sq l => ?_, fun y hy ry => ?_, by rw [h6, e6]; omega, h7⟩
    · obtain ⟨a1, a2, a3⟩ := h3 p sp
      rw [esz p, eo']
      refine ⟨a1, a2, fun o => ?_⟩
      have w := a3 o
      refine ⟨(nx _ _ (by decide)).2 ⟨w.1, fun z => ?_⟩, by rw [eS]; exact w.2⟩
      have b := a1.2.1
      unfold sz at b
      rw [if_neg (by rw [i32_lt]; rw [i32_le] at o; omega), z] at b
      omega
    · rw [esz p]
      exact h4 p q sp sq l
    · have w := (nx y 5 (by decide)).1 hy
      rw [eR] at ry
      have v := h5 y w.1 ry
      rw [eS, eo']
      exact v
/-- the free places -/
def cFl (s : S1) : Prop := (0 ≤ cFc s ∧ (cTl s 3).toInt + (cFc s).toInt = (cN s).toInt) ∧ (∀ i, 0 ≤ i → i < cFc s → (0 ≤ cFr s i ∧ cFr s i < cN s) ∧ cTy s (cFr s i) = 0) ∧ ∀ i j, 0 ≤ i → i < j → j < cFc s → cFr s i ≠ cFr s j
theorem cFl.le {s : S1} (h : cFl s) (hn : cNr s) : cFc s ≤ cN s :=
  kpigeon (cFr s) _ _ h.1.1 hn.1.1 (fun i a b => (h.2.1 i a b).1) h.2.2
theorem cFl.lt {s : S1} (h : cFl s) (hn : cNr s) {x : Int32} (hx : 0 ≤ x ∧ x < cN s) (ht : cTy s x ≠ 0) : cFc s < cN s := by
  have hu := hn.1
  have hle := h.le hn
  have h0 := h.1.1
  have := kpigeon (fun i => if i = cFc s then x else cFr s i) (cFc s + 1) (cN s) (by clear ht h; grind) hu.1
    (fun i a b => by
      by_cases q : i = cFc s
      · rw [if_pos q]
        exact hx
      · rw [if_neg q]
        exact (h.2.1 i a (by clear ht h; grind)).1)
    (fun i j a b c => by
      have li : i < cFc s := by clear ht h; grind
      rw [if_neg (by clear ht h; grind)]
      by_cases q : j = cFc s
      · rw [if_pos q]
        intro z
        have w := (h.2.1 i a li).2
        rw [z] at w
        exact ht w
      · rw [if_neg q]
        exact h.2.2 i j a b (by clear ht h; grind))
  clear ht h
  grind
/-- a place becomes free -/
theorem cFl.push {s t : S1} {x : Int32} (h : cFl s) (hn : cNr s) (hx : 0 ≤ x ∧ x < cN s) (ht : cTy s x ≠ 0) (en : cN t = cN s) (et : ∀ y, cTy t y = if y = x then 0 else cTy s y) (ec : cFc t = cFc s + 1) (ef : ∀ i, cFr t i = if i = cFc s then x else cFr s i) (e3 : cTl t 3 = cTl s 3 - 1) : cFl t := by
  have lt := h.lt hn hx ht
  have h0 := h.1.1
  have h1 := h.1.2
  have hu := hn.1
  have e0 : (0 : Int32).toInt = 0 := rfl
  have e1 : (1 : Int32).toInt = 1 := rfl
  have e4 : (4000 : Int32).toInt = 4000 := rfl
  unfold cFl
  rw [ec, en, e3]
  refine ⟨⟨by clear h h1 et ef; grind, ?_⟩, fun i a b => ?_, fun i j a b c => ?_⟩
  · rw [i32_lt] at lt
    rw [i32_le, i32_le] at hu
    rw [i32_le] at h0
    rw [ktI_add (by omega), ktI_sub (by omega)]
    omega
  · rw [ef]
    by_cases q : i = cFc s
    · rw [if_pos q]
      exact ⟨hx, by rw [et, if_pos rfl]⟩
    · rw [if_neg q]
      have w := h.2.1 i a (by clear h h1 et ef; grind)
      refine ⟨w.1, ?_⟩
      rw [et]
      by_cases z : cFr s i = x
      · rw [if_pos z]
      · rw [if_neg z]
        exact w.2
  · have li : i < cFc s := by clear h h1 et ef; grind
    rw [ef, ef, if_neg (by clear h h1 et ef; grind)]
    by_cases q : j = cFc s
    · rw [if_pos q]
      intro z
      have w := (h.2.1 i a li).2
      rw [z] at w
      exact ht w
    · rw [if_neg q]
      exact h.2.2 i j a b (by clear h h1 et ef; grind)
/-- how many coroutines live -/
def cCm (s : S1) : Nat := (List.range 32).countP (fun n => decide (gI s 19071 (Int32.ofNat n) = 1 ∧ 0 ≤ oSl s (Int32.ofNat n)))
def cCt (s : S1) : Prop := (∀ c, pC s c → 0 ≤ oSl s c → cLv false s (oSl s c) 7 ∧ cLk s (oSl s c) = c ∧ cCn s c) ∧ (∀ y, cLv false s y 8 → 0 ≤ cLk s y → pC s (cLk s y) ∧ 0 ≤ oSl s (cLk s y)) ∧ (cTl s 11).toInt = cCm s
/-- one thing's own -/
def cTh (s : S1) (x : Int32) : Prop := (cTy s x = 0 ∨ 4 ≤ cTy s x ∧ cTy s x ≤ 9) ∧ cPv (cLv false s) s x ∧ cTs s x ∧ (cSy s x = 0 ∨ cSy s x = 1) ∧ (cSy s x ≠ 0 → cTy s x = 4) ∧ (cTy s x ≠ 0 → 0 ≤ (cNu s x).toInt ∧ (cNu s x).toInt < (cTl s 4).toInt)
/-- the heap -/
def cHI (s : S1) : Prop := cNr s ∧ (∀ x, 0 ≤ x → x < cN s → cTh s x) ∧ cBs s ∧ cFl s ∧ cCt s ∧ cPo s
