/-! The class: all rooms move to the pool's beginning. -/
theorem cPo.own {s : S1} {S : Int32 → Prop} {W : Int32 → Int} (h : cPoW s S W) : ∀ n : Nat, ∀ r, S r ∨ r = cTop s → (cTop s).toInt - r.toInt ≤ n → W r < W (cTop s) → ∃ p, S p ∧ 0 ≤ cOw s p ∧ W p = W r := by
  obtain ⟨p1, p2, p3, p4, p5, p6, p7⟩ := h
  intro n
  induction n with
  | zero =>
    intro r hr hn hw
    rcases hr with sr | rfl
    · have := (p3 r sr).1
      omega
    · omega
  | succ n ih =>
    intro r hr hn hw
    rcases hr with sr | rfl
    · obtain ⟨⟨a1, a2, a3⟩, a4, a5⟩ := p3 r sr
      by_cases o : cOw s r < 0
      · have e : (Int32.ofInt (r.toInt + sz s r)).toInt = r.toInt + sz s r := ofInt_toInt (by omega)
        obtain ⟨b1, b2⟩ := a4 _ e
        rw [if_pos o] at b2
        have hr' : S (Int32.ofInt (r.toInt + sz s r)) ∨ Int32.ofInt (r.toInt + sz s r) = cTop s := by
          by_cases q : (Int32.ofInt (r.toInt + sz s r)).toInt < (cTop s).toInt
          · exact .inl (b1 q)
          · exact .inr (toInt_inj (by omega))
        obtain ⟨p, c1, c2, c3⟩ := ih _ hr' (by omega) (by omega)
        exact ⟨p, c1, c2, by omega⟩
      · exact ⟨r, sr, by rw [i32_le]; rw [i32_lt] at o; omega, rfl⟩
    · omega
def sm6 (t s : S1) (k k' : Int32) : Prop := cKk t k = cKk s k' ∧ cKv t k = cKv s k' ∧ cVk t k = cVk s k' ∧ cVv t k = cVv s k' ∧ cHd t k = cHd s k' ∧ cCh t k = cCh s k'
theorem sm6.trans {u t s : S1} {k k' k'' : Int32} (a : sm6 u t k k') (b : sm6 t s k' k'') : sm6 u s k k'' := ⟨a.1.trans b.1, a.2.1.trans b.2.1, a.2.2.1.trans b.2.2.1, a.2.2.2.1.trans b.2.2.2.1, a.2.2.2.2.1.trans b.2.2.2.2.1, a.2.2.2.2.2.trans b.2.2.2.2.2⟩
def rlA (a : Nat) : Prop := a ≠ 121 ∧ a ≠ 123 ∧ a ≠ 125 ∧ a ≠ 126 ∧ a ≠ 127
def cCu (s : S1) (W : Int32 → Int) (fr : Int32) (t : S1) : Prop :=
  (∀ f j, f ≠ 18571 → gI t f j = gI s f j) ∧ (∀ f j, gL t f j = gL s f j) ∧ (∀ a j k, rlA a → gA t a j k = gA s a j k) ∧ (∀ a j k, a ≠ 122 ∧ a ≠ 124 → gB t a j k = gB s a j k) ∧
  (∀ k, fr.toInt ≤ k.toInt → sm6 t s k k ∧ cOw t k = cOw s k) ∧
  (∀ y, cLv false s y 5 → 0 < (cR s y).toInt → (cS0 s y).toInt < fr.toInt → (cS0 t y).toInt = W (cS0 s y) ∧ cOw t (cS0 t y) = y ∧ ∀ k k', cIn s y k' → k.toInt - (cS0 t y).toInt = k'.toInt - (cS0 s y).toInt → sm6 t s k k') ∧
  ∀ y, cLv false s y 5 → (cR s y).toInt ≤ 0 ∨ fr.toInt ≤ (cS0 s y).toInt → cS0 t y = cS0 s y
theorem cPo.szt {s : S1} {S : Int32 → Prop} {W : Int32 → Int} (h : cPoW s S W) {y : Int32} (hy : cLv false s y 5) (r : 0 < (cR s y).toInt) : S (cS0 s y) ∧ cOw s (cS0 s y) = y ∧ sz s (cS0 s y) = (cR s y).toInt := by
  obtain ⟨p1, p2, p3, p4, p5, p6, p7⟩ := h
  have w := p5 y hy r
  refine ⟨w.1, w.2, ?_⟩
  unfold sz
  rw [w.2, if_neg (fun z => ?_)]
  have := hy.1.1
  rw [i32_le] at this
  rw [i32_lt] at z
  omega
/-- a free piece is left out -/
theorem cu_skip {s t : S1} {S : Int32 → Prop} {W : Int32 → Int} (h : cPoW s S W) {fr fr' : Int32} (hf : S fr) (ef : fr'.toInt = fr.toInt + sz s fr) (o : cOw s fr < 0) (hc : cCu s W fr t) : cCu s W fr' t := by
  have hp := h
  obtain ⟨p1, p2, p3, p4, p5, p6, p7⟩ := h
  obtain ⟨c1, c2, c3, c4, c5, c6, c7⟩ := hc
  have w := (p3 fr hf).1
  have ne : ∀ y, cLv false s y 5 → 0 < (cR s y).toInt → (cS0 s y).toInt < fr'.toInt → (cS0 s y).toInt < fr.toInt := fun y hy r l => by
    have z := cPo.szt hp hy r
    rcases Int.lt_trichotomy (cS0 s y).toInt fr.toInt with q | q | q
    · exact q
    · rw [← toInt_inj q, z.2.1] at o
      have := hy.1.1
      rw [i32_le] at this
      rw [i32_lt] at o
      omega
    · have := p4 _ _ hf z.1 q
      omega
  refine ⟨c1, c2, c3, c4, fun k q => c5 k (by omega), fun y hy r l => c6 y hy r (ne y hy r l), fun y hy r => c7 y hy (r.imp id (fun q => by omega))⟩
/-- a room is moved -/
theorem cu_move {s t T : S1} {S : Int32 → Prop} {W : Int32 → Int} (h : cPoW s S W) {fr fr' to o : Int32} (hf : S fr) (ef : fr'.toInt = fr.toInt + sz s fr) (o0 : 0 ≤ cOw s fr) (eo : o = cOw s fr) (eto : to.toInt = W fr) (hw : 0 ≤ W fr ∧ W fr ≤ fr.toInt) (hc : cCu s W fr t)
    (TI : ∀ f j, gI T f j = if f = 18571 ∧ j = o then to else gI t f j) (TL : ∀ f j, gL T f j = gL t f j) (TA : ∀ a j k, rlA a → gA T a j k = gA t a j k) (TB : ∀ a j k, a ≠ 122 ∧ a ≠ 124 → gB T a j k = gB t a j k)
    (TO : ∀ k, cOw T k = if k = to then o else cOw t k) (T6 : ∀ k, sm6 T t k (if to.toInt ≤ k.toInt ∧ k.toInt < to.toInt + sz s fr then fr + (k - to) else k)) : cCu s W fr' T := by
  have hp := h
  obtain ⟨p1, p2, p3, p4, p5, p6, p7⟩ := h
  obtain ⟨c1, c2, c3, c4, c5, c6, c7⟩ := hc
  obtain ⟨⟨w1, w2, w3⟩, w4, w5⟩ := p3 fr hf
  obtain ⟨lo, so⟩ := w5 o0
  rw [← eo] at lo so o0
  have ro : (cR s o).toInt = sz s fr := by
    unfold sz
    rw [← eo, if_neg (fun z => ?_)]
    rw [i32_lt] at z
    rw [i32_le] at o0
    omega
  have TS : ∀ y, cS0 T y = if y = o then to else cS0 t y := fun y => (TI 18571 y).trans (by simp)
  have old : ∀ y, cLv false s y 5 → 0 < (cR s y).toInt → (cS0 s y).toInt < fr.toInt → y ≠ o ∧ W (cS0 s y) + (cR s y).toInt ≤ to.toInt := fun y hy r l => by
    have z := cPo.szt hp hy r
    obtain ⟨⟨x1, x2, x3⟩, x4, x5⟩ := p3 _ z.1
    rw [z.2.2] at x2 x3 x4
    refine ⟨fun q => ?_, ?_⟩
    · rw [q, so] at l
      omega
    · have e : (Int32.ofInt ((cS0 s y).toInt + (cR s y).toInt)).toInt = (cS0 s y).toInt + (cR s y).toInt := ofInt_toInt (by omega)
      have b := x4 _ e
      rw [if_neg (fun q => by
        rw [z.2.1] at q
        have := hy.1.1
        rw [i32_le] at this
        rw [i32_lt] at q
        omega)] at b
      have le : (cS0 s y).toInt + (cR s y).toInt ≤ fr.toInt := by
        have := p4 _ _ z.1 hf l
        omega
      have m : S (Int32.ofInt ((cS0 s y).toInt + (cR s y).toInt)) := b.1 (by omega)
      have := (p7 _ _ (.inl m) (.inl hf) (by omega)).1
      omega
  refine ⟨fun f j q => ?_, fun f j => (TL f j).trans (c2 f j), fun a j k q => (TA a j k q).trans (c3 a j k q), fun a j k q => (TB a j k q).trans (c4 a j k q), fun k q => ?_, fun y hy r l => ?_, fun y hy r => ?_⟩
  · rw [TI, if_neg (fun z => q z.1)]
    exact c1 f j q
  · have a := T6 k
    rw [if_neg (fun z => by omega)] at a
    have b := c5 k (by omega)
    refine ⟨a.trans b.1, ?_⟩
    rw [TO, if_neg (fun z => by rw [z] at q; omega)]
    exact b.2
  · by_cases q : y = o
    · subst q
      have e : cS0 T y = to := (TS y).trans (if_pos rfl)
      rw [e]
      refine ⟨by rw [so]; exact eto, (TO to).trans (if_pos rfl), fun k k' a b => ?_⟩
      unfold cIn at a
      rw [so] at a b
      have c := T6 k
      rw [if_pos (by omega)] at c
      have ek : fr + (k - to) = k' := by
        have e1 : (k - to).toInt = k.toInt - to.toInt := by rw [ktI_sub]; omega
        refine toInt_inj ?_
        rw [ktI_add] <;> omega
      rw [ek] at c
      exact c.trans (c5 k' (by omega)).1
    · have l' : (cS0 s y).toInt < fr.toInt := by
        have z := cPo.szt hp hy r
        rcases Int.lt_trichotomy (cS0 s y).toInt fr.toInt with w | w | w
        · exact w
        · rw [← toInt_inj w, z.2.1] at eo
          exact absurd eo.symm q
        · have := p4 _ _ hf z.1 w
          omega
      obtain ⟨x1, x2, x3⟩ := c6 y hy r l'
      have w := (old y hy r l').2
      have e : cS0 T y = cS0 t y := (TS y).trans (if_neg q)
      rw [e]
      refine ⟨x1, ?_, fun k k' a b => ?_⟩
      · rw [TO, if_neg (fun z => ?_)]
        · exact x2
        · rw [z] at x1
          omega
      · have c := T6 k
        unfold cIn at a
        rw [if_neg (fun z => by omega)] at c
        exact c.trans (x3 k k' a b)
  · have q : y ≠ o := fun z => by
      rw [z] at r
      rw [so] at r
      omega
    rw [TS, if_neg q]
    exact c7 y hy (r.imp id (fun z => by omega))
def cuQ (s u : S1) : Prop := cHI u ∧ (∀ f j, f ≠ 18571 ∧ f ≠ 15367 → gI u f j = gI s f j) ∧ (∀ f j, gL u f j = gL s f j) ∧ (∀ a j k, rlA a → gA u a j k = gA s a j k) ∧ (∀ a j k, a ≠ 122 ∧ a ≠ 124 → gB u a j k = gB s a j k) ∧ (cTop u).toInt = (cTl s 6).toInt
theorem cu_fin {s t u : S1} (H : cHI s) {S : Int32 → Prop} {W : Int32 → Int} (h : cPoW s S W) {fr to : Int32} (hfr : fr.toInt = (cTop s).toInt) (eto : to.toInt = W (cTop s)) (hc : cCu s W fr t)
    (UI : ∀ f j, gI u f j = if f = 15367 ∧ j = 0 then to else gI t f j) (UL : ∀ f j, gL u f j = gL t f j) (UA : ∀ a j k, gA u a j k = gA t a j k) (UB : ∀ a j k, gB u a j k = gB t a j k) : cuQ s u := by
  have hp := h
  obtain ⟨p1, ⟨p2, p2'⟩, p3, p4, p5, p6, p7⟩ := h
  obtain ⟨c1, c2, c3, c4, c5, c6, c7⟩ := hc
  have e0 : (0 : Int32).toInt = 0 := rfl
  have em : (-1 : Int32).toInt = -1 := rfl
  have I : ∀ f j, f ≠ 18571 ∧ f ≠ 15367 → gI u f j = gI s f j := fun f j q => by
    rw [UI, if_neg (fun z => q.2 z.1)]
    exact c1 f j q.1
  have hk : cHx s u := ⟨fun f j q => I f j ⟨q.1, q.2.2.2.2.2⟩, fun f j => (UL f j).trans (c2 f j), fun a j k q => (UA a j k).trans (c3 a j k ⟨q.1, q.2.1, q.2.2.1, q.2.2.2.1, q.2.2.2.2.1⟩), fun a j k q => (UB a j k).trans (c4 a j k q), fun j _ => (UA _ _ _).trans (c3 _ _ _ (by unfold rlA; decide))⟩
  have top : cTop u = to := (UI 15367 0).trans (if_pos ⟨rfl, rfl⟩)
  have us0 : ∀ y, cS0 u y = cS0 t y := fun y => (UI 18571 y).trans (if_neg (fun z => absurd z.1 (by decide)))
  have uR : ∀ y, cR u y = cR s y := fun y => I _ _ (by decide)
  have uE : ∀ y, cE u y = cE s y := fun y => I _ _ (by decide)
  have w0 : 0 ≤ W (cTop s) ∧ W (cTop s) ≤ (cTop s).toInt := by
    have z : S 0 ∨ (0 : Int32) = cTop s := by
      by_cases q : 0 < (cTop s).toInt
      · exact .inl (p2' q)
      · exact .inr (toInt_inj (by omega))
    have := p7 0 (cTop s) z (.inr rfl) (by omega)
    omega
  have tab : ∀ y, cLv false s y 5 → 0 < (cR s y).toInt → (cS0 u y).toInt = W (cS0 s y) ∧ cOw u (cS0 u y) = y ∧ ∀ k k', cIn s y k' → k.toInt - (cS0 u y).toInt = k'.toInt - (cS0 s y).toInt → sm6 u s k k' := fun y hy r => by
    have z := cPo.szt hp hy r
    have := (p3 _ z.1).1
    obtain ⟨x1, x2, x3⟩ := c6 y hy r (by omega)
    rw [us0]
    refine ⟨x1, (UA _ _ _).trans x2, fun k k' a b => ?_⟩
    obtain ⟨y1, y2, y3, y4, y5, y6⟩ := x3 k k' a b
    exact ⟨(UA _ _ _).trans y1, (UB _ _ _).trans y2, (UA _ _ _).trans y3, (UB _ _ _).trans y4, (UA _ _ _).trans y5, (UA _ _ _).trans y6⟩
  have wle : ∀ y, cLv false s y 5 → 0 < (cR s y).toInt → 0 ≤ W (cS0 s y) ∧ W (cS0 s y) + (cR s y).toInt ≤ W (cTop s) := fun y hy r => by
    have z := cPo.szt hp hy r
    obtain ⟨⟨x1, x2, x3⟩, x4, x5⟩ := p3 _ z.1
    rw [z.2.2] at x2 x3 x4
    have e : (Int32.ofInt ((cS0 s y).toInt + (cR s y).toInt)).toInt = (cS0 s y).toInt + (cR s y).toInt := ofInt_toInt (by omega)
    have b := x4 _ e
    rw [if_neg (fun q => by
      rw [z.2.1] at q
      have := hy.1.1
      rw [i32_le] at this
      rw [i32_lt] at q
      omega)] at b
    have m : S (Int32.ofInt ((cS0 s y).toInt + (cR s y).toInt)) ∨ Int32.ofInt ((cS0 s y).toInt + (cR s y).toInt) = cTop s := by
      by_cases q : (Int32.ofInt ((cS0 s y).toInt + (cR s y).toInt)).toInt < (cTop s).toInt
      · exact .inl (b.1 q)
      · exact .inr (toInt_inj (by omega))
    have m1 := (p7 _ _ m (.inr rfl) (by omega)).1
    have m0 := (p7 0 _ (.inl (p2' (by omega))) (.inl z.1) (by omega)).1
    omega
  have po : cPo u := by
    refine ⟨fun q => ∃ p, S p ∧ 0 ≤ cOw s p ∧ q.toInt = W p, fun q => q.toInt, ?_⟩
    have tb : ∀ p, S p → 0 ≤ cOw s p → cLv false s (cOw s p) 5 ∧ cS0 s (cOw s p) = p ∧ 0 < (cR s (cOw s p)).toInt := fun p sp o => by
      obtain ⟨⟨x1, x2, x3⟩, x4, x5⟩ := p3 p sp
      have z := x5 o
      refine ⟨z.1, z.2, ?_⟩
      unfold sz at x2
      rw [if_neg (fun q => by rw [i32_le] at o; rw [i32_lt] at q; omega)] at x2
      omega
    have own : ∀ q p, S p → 0 ≤ cOw s p → q.toInt = W p → cOw u q = cOw s p ∧ sz u q = (cR s (cOw s p)).toInt ∧ cS0 u (cOw s p) = q := fun q p sp o e => by
      have z := tb p sp o
      have w := tab _ z.1 z.2.2
      rw [z.2.1] at w
      have eq : cS0 u (cOw s p) = q := toInt_inj (by omega)
      have ow : cOw u q = cOw s p := by
        rw [← eq]
        exact w.2.1
      refine ⟨ow, ?_, eq⟩
      unfold sz
      rw [ow, uR, if_neg (fun q => by rw [i32_le] at o; rw [i32_lt] at q; omega)]
    have nxt : ∀ p, S p → 0 ≤ cOw s p → ∀ v : Int32, v.toInt = W p + (cR s (cOw s p)).toInt → v.toInt < W (cTop s) → ∃ p', S p' ∧ 0 ≤ cOw s p' ∧ v.toInt = W p' := fun p sp o v e l => by
      have z := tb p sp o
      obtain ⟨⟨x1, x2, x3⟩, x4, x5⟩ := p3 p sp
      have zz := cPo.szt hp z.1 z.2.2
      rw [z.2.1] at zz
      rw [zz.2.2] at x2 x3 x4
      have e' : (Int32.ofInt (p.toInt + (cR s (cOw s p)).toInt)).toInt = p.toInt + (cR s (cOw s p)).toInt := ofInt_toInt (by omega)
      have b := x4 _ e'
      rw [if_neg (fun q => by rw [i32_le] at o; rw [i32_lt] at q; omega)] at b
      have m : S (Int32.ofInt (p.toInt + (cR s (cOw s p)).toInt)) ∨ Int32.ofInt (p.toInt + (cR s (cOw s p)).toInt) = cTop s := by
        by_cases q : (Int32.ofInt (p.toInt + (cR s (cOw s p)).toInt)).toInt < (cTop s).toInt
        · exact .inl (b.1 q)
        · exact .inr (toInt_inj (by omega))
      obtain ⟨p', d1, d2, d3⟩ := cPo.own hp 50000 _ m (by omega) (by omega)
      exact ⟨p', d1, d2, by omega⟩
    unfold cPoW
    rw [top, show cTl u 6 = cTl s 6 from (UA _ _ _).trans (c3 _ _ _ (by unfold rlA; decide))]
    refine ⟨by omega, ⟨rfl, fun l => ?_⟩, ?_, ?_, ?_, ?_, ?_⟩
    · have z : S 0 ∨ (0 : Int32) = cTop s := .inl (p2' (by omega))
      obtain ⟨p, d1, d2, d3⟩ := cPo.own hp 50000 0 z (by omega) (by omega)
      exact ⟨p, d1, d2, by omega⟩
    · rintro q ⟨p, sp, o, e⟩
      have w := own q p sp o e
      have z := tb p sp o
      have l := wle _ z.1 z.2.2
      rw [z.2.1] at l
      rw [w.1, w.2.1]
      refine ⟨⟨by omega, by omega, by omega⟩, fun p' e' => ⟨fun l' => ?_, ?_⟩, fun _ => ⟨hk.lv.2 z.1, w.2.2⟩⟩
      · exact nxt p sp o p' (by omega) (by omega)
      · rw [if_neg (fun q => by rw [i32_le] at o; rw [i32_lt] at q; omega)]
        exact e'
    · rintro q q' ⟨p, sp, o, e⟩ ⟨p', sp', o', e'⟩ l
      have w := own q p sp o e
      have z := tb p sp o
      rw [w.2.1]
      have lt : p.toInt < p'.toInt := by
        refine Decidable.byContradiction fun g => ?_
        have := (p7 p' p (.inl sp') (.inl sp) (by omega)).1
        omega
      obtain ⟨⟨x1, x2, x3⟩, x4, x5⟩ := p3 p sp
      have zz := cPo.szt hp z.1 z.2.2
      rw [z.2.1] at zz
      rw [zz.2.2] at x2 x3 x4
      have e2 : (Int32.ofInt (p.toInt + (cR s (cOw s p)).toInt)).toInt = p.toInt + (cR s (cOw s p)).toInt := ofInt_toInt (by omega)
      have b := x4 _ e2
      rw [if_neg (fun q => by rw [i32_le] at o; rw [i32_lt] at q; omega)] at b
      have g := p4 p p' sp sp' lt
      rw [zz.2.2] at g
      have gt := (p3 p' sp').1
      have m : S (Int32.ofInt (p.toInt + (cR s (cOw s p)).toInt)) := b.1 (by omega)
      have := (p7 _ p' (.inl m) (.inl sp') (by omega)).1
      omega
    · intro y hy r
      rw [uR] at r
      have hy' := hk.lv.1 hy
      have z := cPo.szt hp hy' r
      have w := tab y hy' r
      refine ⟨⟨cS0 s y, z.1, ?_, w.1⟩, w.2.1⟩
      rw [z.2.1]
      exact hy'.1.1
    · dsimp only
      omega
    · intro p q _ _ l
      dsimp only
      omega
  refine ⟨H.tx hk po (fun y hy => ?_), I, fun f j => (UL f j).trans (c2 f j), fun a j k q => (UA a j k).trans (c3 a j k q), fun a j k q => (UB a j k).trans (c4 a j k q), by rw [top, eto, p6]⟩
  obtain ⟨b1, b2, b3⟩ := H.tbv hy
  obtain ⟨b4, b5, b6⟩ := b3 hy.2.1
  obtain ⟨⟨a1, a2, a3, a4, a5⟩, a6, a7⟩ := H.tI hy
  by_cases r : 0 < (cR s y).toInt
  · obtain ⟨x1, x2, x3⟩ := tab y hy r
    have l := wle y hy r
    have cont : ∀ i, 0 ≤ i → i < cR s y → sm6 u s (cS0 u y + i) (cS0 s y + i) := fun i i0 i1 => by
      have ii := cIn.add H hy i0 i1
      refine x3 _ _ ii.1 ?_
      rw [i32_le] at i0
      rw [i32_lt] at i1
      rw [ii.2, ktI_add] <;> omega
    have lt : ∀ i, i < cE s y → i < cR s y := fun i a => by
      rw [i32_lt] at a ⊢
      omega
    refine ⟨?_, fun i i0 i1 => ?_, fun _ => ⟨⟨⟨?_, ?_⟩, ?_, ?_, ?_⟩, fun i i0 i1 => ?_, fun i i0 i1 => ?_⟩⟩
    · rw [show cMt u y = cMt s y from I _ _ (by decide), hk.lv']
      exact b1
    · rw [uE] at i1
      obtain ⟨y1, y2, y3, y4, -, -⟩ := cont i i0 (lt i i1)
      rw [y1, y2, y3, y4, hk.lv']
      exact b2 i i0 i1
    · rw [i32_le]
      omega
    · rw [i32_le]
      show _ ≤ (50000 : Int)
      omega
    · rw [uR]
      exact b4.2.1
    · rw [uR, top, i32_le, ktI_add] <;> omega
    · rw [uE, uR]
      refine ⟨b4.2.2.2.1, b4.2.2.2.2.1, fun z => ?_⟩
      rw [z] at r
      exact absurd r (by decide)
    · rw [uR] at i1
      rw [uE, (cont i i0 i1).2.2.2.2.1]
      exact b5 i i0 i1
    · rw [uE] at i1
      rw [uE, (cont i i0 (lt i i1)).2.2.2.2.2]
      exact b6 i i0 i1
  · have r0 : cR s y = 0 := toInt_inj (by omega)
    have s0 := b4.2.2.2.2.2 r0
    have s0' : cS0 u y = 0 := by
      rw [us0, c7 y hy (.inl (by omega)), s0]
    have z : cE s y = 0 := toInt_inj (by rw [r0] at a7; omega)
    unfold tbl cTs
    rw [s0', uR, uE, r0, z, top]
    refine ⟨?_, fun i i0 i1 => ?_, fun _ => ⟨⟨by decide, by decide, ?_, by decide⟩, fun i i0 i1 => ?_, fun i i0 i1 => ?_⟩⟩
    · rw [show cMt u y = cMt s y from I _ _ (by decide), hk.lv']
      exact b1
    · rw [i32_le] at i0
      rw [i32_lt] at i1
      omega
    · rw [i32_le]
      show ((0 : Int32) + 0).toInt ≤ _
      have : ((0 : Int32) + 0).toInt = 0 := rfl
      omega
    · rw [i32_le] at i0
      rw [i32_lt] at i1
      omega
    · rw [i32_le] at i0
      rw [i32_lt] at i1
      omega
