/-! The class: writes in tables keep the heap. -/
theorem kok_F {α : Type} (s : S1) (Q : α → S1 → Prop) : ok (oF (α := α)) s Q ↔ False := ⟨fun ⟨p, h, _⟩ => oF_no h, fun h => h.elim⟩
theorem n8 {k : Int32} (h : 0 ≤ k ∧ k ≤ 7) : k.toInt8.toInt32.toInt8.toInt32 = k := by
  obtain ⟨a, b⟩ := h
  rw [i32_le] at a b
  have e0 : (0 : Int32).toInt = 0 := rfl
  have e7 : (7 : Int32).toInt = 7 := rfl
  have c : k.toInt = 0 ∨ k.toInt = 1 ∨ k.toInt = 2 ∨ k.toInt = 3 ∨ k.toInt = 4 ∨ k.toInt = 5 ∨ k.toInt = 6 ∨ k.toInt = 7 := by omega
  have d : ∀ j : Int32, k.toInt = j.toInt → j.toInt8.toInt32.toInt8.toInt32 = j → k.toInt8.toInt32.toInt8.toInt32 = k := fun j e f => by
    rw [toInt_inj e]
    exact f
  rcases c with c | c | c | c | c | c | c | c
  · exact d 0 c (by decide)
  · exact d 1 c (by decide)
  · exact d 2 c (by decide)
  · exact d 3 c (by decide)
  · exact d 4 c (by decide)
  · exact d 5 c (by decide)
  · exact d 6 c (by decide)
  · exact d 7 c (by decide)
/-- all but the tables' rows is as it was -/
def cHx (s t : S1) : Prop := (∀ f j, f ≠ 18571 ∧ f ≠ 18572 ∧ f ≠ 18573 ∧ f ≠ 18574 ∧ f ≠ 18575 ∧ f ≠ 15367 → gI t f j = gI s f j) ∧ (∀ f j, gL t f j = gL s f j) ∧ (∀ a j k, a ≠ 121 ∧ a ≠ 123 ∧ a ≠ 125 ∧ a ≠ 126 ∧ a ≠ 127 ∧ a ≠ 114 → gA t a j k = gA s a j k) ∧ (∀ a j k, a ≠ 122 ∧ a ≠ 124 → gB t a j k = gB s a j k) ∧ ∀ j, j ≠ 6 ∧ j ≠ 7 ∧ j ≠ 13 → cTl t j = cTl s j
theorem cHx.I {s t : S1} (h : cHx s t) (f : Nat) (hf : f ≠ 18571 ∧ f ≠ 18572 ∧ f ≠ 18573 ∧ f ≠ 18574 ∧ f ≠ 18575 ∧ f ≠ 15367) (j : Int32) : gI t f j = gI s f j := h.1 f j hf
theorem cHx.L {s t : S1} (h : cHx s t) (f : Nat) (j : Int32) : gL t f j = gL s f j := h.2.1 f j
theorem cHx.A {s t : S1} (h : cHx s t) (a : Nat) (ha : a ≠ 121 ∧ a ≠ 123 ∧ a ≠ 125 ∧ a ≠ 126 ∧ a ≠ 127 ∧ a ≠ 114) (j k : Int32) : gA t a j k = gA s a j k := h.2.2.1 a j k ha
theorem cHx.B {s t : S1} (h : cHx s t) (a : Nat) (ha : a ≠ 122 ∧ a ≠ 124) (j k : Int32) : gB t a j k = gB s a j k := h.2.2.2.1 a j k ha
theorem cHx.tl {s t : S1} (h : cHx s t) (j : Int32) (hj : j ≠ 6 ∧ j ≠ 7 ∧ j ≠ 13) : cTl t j = cTl s j := h.2.2.2.2 j hj
theorem cHx.refl (s : S1) : cHx s s := ⟨fun _ _ _ => rfl, fun _ _ => rfl, fun _ _ _ _ => rfl, fun _ _ _ _ => rfl, fun _ _ => rfl⟩
theorem cHx.trans {s t u : S1} (a : cHx s t) (b : cHx t u) : cHx s u := ⟨fun f j h => (b.1 f j h).trans (a.1 f j h), fun f j => (b.2.1 f j).trans (a.2.1 f j), fun f j k h => (b.2.2.1 f j k h).trans (a.2.2.1 f j k h), fun f j k h => (b.2.2.2.1 f j k h).trans (a.2.2.2.1 f j k h), fun j h => (b.2.2.2.2 j h).trans (a.2.2.2.2 j h)⟩
theorem cHx.lv {s t : S1} (h : cHx s t) {y u : Int32} : cLv false t y u ↔ cLv false s y u := by
  rw [cLv_f, cLv_f, show cN t = cN s from h.I _ (by decide) _, show cTy t y = cTy s y from h.I _ (by decide) _]
theorem cHx.lv' {s t : S1} (h : cHx s t) : cLv false t = cLv false s := by
  funext y u
  exact propext h.lv
/-- a table holds what it may -/
def tbl (s : S1) (y : Int32) : Prop := (cMt s y < 0 ∨ cLv false s (cMt s y) 5) ∧ (∀ i, 0 ≤ i → i < cE s y → cV (cLv false s) (cKk s (cS0 s y + i)) (cKv s (cS0 s y + i)) ∧ cV (cLv false s) (cVk s (cS0 s y + i)) (cVv s (cS0 s y + i))) ∧ cTs s y
theorem cHI.tbv {s : S1} (H : cHI s) {y : Int32} (hy : cLv false s y 5) : tbl s y := by
  have w := H.2.1 y hy.1.1 hy.1.2
  have p := w.2.1.2.1 hy.2.1
  exact ⟨p.1, p.2, w.2.2.1⟩
theorem cHI.tx {s t : S1} (H : cHI s) (hk : cHx s t) (po : cPo t) (tb : ∀ y, cLv false s y 5 → tbl t y) : cHI t := by
  obtain ⟨h1, h2, h3, h4, h5, h6⟩ := H
  have en : cN t = cN s := hk.I _ (by decide) _
  have ety : ∀ y, cTy t y = cTy s y := fun y => hk.I _ (by decide) _
  have eop : ∀ c, cOp t c = cOp s c := fun c => by
    funext y
    simp only [cOp, hk.lv, hk.I 18564 (by decide)]
  have ecn : ∀ c, cCn s c → cCn t c := fun c w => by
    refine ⟨w.1.congr (fun y => by rw [eop]) (fun y _ => ?_) (fun y _ => ?_) ?_, fun y m => ?_⟩
    · rw [show cPl t y = cPl s y from hk.I _ (by decide) _]
    · exact hk.I _ (by decide) _
    · exact hk.I _ (by decide) _
    · rw [eop] at m
      rw [show cPl t y = cPl s y from hk.I _ (by decide) _]
      exact w.2 y m
  refine ⟨⟨by rw [en]; exact h1.1, fun x a b => ?_⟩, fun x a b => ?_, ?_, ⟨?_, fun i a b => ?_, fun i j a b c => ?_⟩, ⟨fun c p l => ?_, fun y a b => ?_, ?_⟩, po⟩
  · rw [en] at b
    have w := h1.2 x a b
    exact ⟨w.1, (hk.I _ (by decide) _).trans w.2⟩
  · rw [en] at b
    obtain ⟨g1, g2, g3, g4, g5, g6⟩ := h2 x a b
    refine ⟨by rw [ety]; exact g1, ?_, ?_, ?_, ?_, ?_⟩
    · by_cases q : cTy s x = 5
      · have w := tb x ⟨⟨a, b⟩, q, fun z => absurd z (by decide)⟩
        exact cPv.of5 ((ety x).trans q) ⟨w.1, w.2.1⟩
      · simp only [cPv, cCo, pP, pC, hk.lv, hk.I 18560 (by decide), hk.I 18815 (by decide), hk.I 18564 (by decide), hk.I 18559 (by decide), hk.I 18943 (by decide), hk.I 18942 (by decide), hk.I 18435 (by decide), hk.I 19071 (by decide), hk.I 18950 (by decide), hk.I 18948 (by decide), hk.I 18949 (by decide), hk.I 19457 (by decide), hk.I 19462 (by decide), hk.I 18566 (by decide), hk.I 18567 (by decide), hk.L 18568, hk.L 18953, hk.L 19463, hk.A 147 (by decide), hk.A 149 (by decide), hk.B 150 (by decide), hk.lv']
        exact ⟨g2.1, fun z => absurd z q, g2.2.2⟩
    · by_cases q : cTy s x = 5
      · exact (tb x ⟨⟨a, b⟩, q, fun z => absurd z (by decide)⟩).2.2
      · exact fun z => absurd ((ety x).symm.trans z) q
    · rw [show cSy t x = cSy s x from hk.I _ (by decide) _]
      exact g4
    · rw [show cSy t x = cSy s x from hk.I _ (by decide) _, ety]
      exact g5
    · rw [show cNu t x = cNu s x from hk.I _ (by decide) _, ety, hk.tl 4 (by decide)]
      exact g6
  · exact h3.congr (fun y => hk.lv) (fun y _ => hk.I _ (by decide) _) (fun y _ => hk.I _ (by decide) _) (fun y _ => hk.I _ (by decide) _) (fun b => hk.A _ (by decide) _ _)
  · rw [show cFc t = cFc s from hk.I _ (by decide) _, en, hk.tl 3 (by decide)]
    exact h4.1
  · rw [show cFc t = cFc s from hk.I _ (by decide) _] at b
    rw [show cFr t i = cFr s i from hk.A _ (by decide) _ _, en, ety]
    exact h4.2.1 i a b
  · rw [show cFc t = cFc s from hk.I _ (by decide) _] at c
    rw [show cFr t i = cFr s i from hk.A _ (by decide) _ _, show cFr t j = cFr s j from hk.A _ (by decide) _ _]
    exact h4.2.2 i j a b c
  · have p' : pC s c := ⟨p.1, (hk.I 19071 (by decide) c).symm.trans p.2⟩
    have es : oSl t c = oSl s c := hk.I _ (by decide) _
    rw [es] at l ⊢
    have w := h5.1 c p' l
    exact ⟨hk.lv.2 w.1, (hk.I _ (by decide) _).trans w.2.1, ecn c w.2.2⟩
  · have e : cLk t y = cLk s y := hk.I _ (by decide) _
    rw [e] at b ⊢
    have w := h5.2.1 y (hk.lv.1 a) b
    refine ⟨⟨w.1.1, (hk.I 19071 (by decide) _).trans w.1.2⟩, ?_⟩
    rw [show oSl t (cLk s y) = oSl s (cLk s y) from hk.I _ (by decide) _]
    exact w.2
  · rw [hk.tl 11 (by decide), h5.2.2]
    unfold cCm
    simp only [oSl, hk.I 19071 (by decide), hk.I 18950 (by decide)]
theorem cHx.rt {s t : S1} (h : cHx s t) (R : cRt s) : cRt t := by
  refine R.up (fun y u _ l => h.lv.2 l) (fun f j q => h.1 f j ?_) (fun a j k q => h.2.2.1 a j k ?_) (fun a j k q => h.2.2.2.1 a j k ?_) (fun y _ => h.I _ (by decide) _)
  · rcases q with rfl | rfl | rfl | rfl | rfl | rfl | rfl | rfl | rfl | rfl <;> decide
  · rcases q with rfl | rfl | rfl | rfl | rfl <;> decide
  · rcases q with rfl | rfl | rfl | rfl <;> decide
theorem cHx.sf {s t : S1} (h : cHx s t) (S : cSf s) : cSf t := S.congr (fun f j q => h.1 f j (by
  rcases q with rfl | rfl | rfl | rfl | rfl | rfl | rfl | rfl | rfl | rfl | rfl | rfl <;> decide))
theorem cHx.hr {s t : S1} (h : cHx s t) (H : cHR s) (Ht : cHI t) : cHR t := ⟨Ht, fun l => h.rt (H.2 ((h.I 14221 (by decide) 0).symm.trans l))⟩
theorem cHx.ro {s t : S1} {n e : Nat × Nat} (h : cHx s t) (R : cRo s n e) (h1 : (cTl s 13).toInt ≤ (cTl t 13).toInt) (h2 : (cTl t 13).toInt ≤ 300000) : cRo t n e := by
  obtain ⟨al, a, b, c, hw, c1, c2⟩ := R
  obtain ⟨a1, a2, a3, a4, a5⟩ := al
  refine ⟨?_, a, b, c, ?_, ?_, ?_⟩
  · unfold cAl
    rw [h.tl 4 (by decide), h.tl 12 (by decide), h.tl 14 (by decide), h.I 15230 (by decide), h.I 14220 (by decide)]
    exact ⟨a1, ⟨by omega, h2⟩, a3, a4, a5⟩
  · unfold cHw at hw ⊢
    simp only [h.I 18687 (by decide), h.I 18559 (by decide), h.I 19071 (by decide), h.I 18815 (by decide), h.I 18943 (by decide), h.I 18942 (by decide), h.I 18814 (by decide)]
    exact hw
  · unfold cNd at c1 ⊢
    rw [h.tl 12 (by decide), h.I 15230 (by decide)]
    exact c1
  · unfold cNd at c2 ⊢
    rw [h.tl 14 (by decide), h.I 15230 (by decide)]
    dsimp only at c2 ⊢
    omega
/-- a place of the pool lies in a table's room -/
def cIn (s : S1) (x k : Int32) : Prop := (cS0 s x).toInt ≤ k.toInt ∧ k.toInt < (cS0 s x).toInt + (cR s x).toInt
theorem cHI.tI {s : S1} (H : cHI s) {x : Int32} (hx : cLv false s x 5) : (0 ≤ (cS0 s x).toInt ∧ 0 ≤ (cR s x).toInt ∧ (cR s x).toInt ≤ 40000 ∧ (cS0 s x).toInt + (cR s x).toInt ≤ (cTop s).toInt ∧ (cTop s).toInt ≤ 50000) ∧ 0 ≤ (cE s x).toInt ∧ (cE s x).toInt ≤ (cR s x).toInt := by
  obtain ⟨⟨⟨a1, a2⟩, ⟨a3, a4⟩, a5, a6, a7⟩, -⟩ := (H.2.1 x hx.1.1 hx.1.2).2.2.1 hx.2.1
  obtain ⟨S, W, ⟨tp, tq⟩, -⟩ := H.2.2.2.2.2
  rw [i32_le] at a1 a2 a3 a4 a5 a6 a7
  have e0 : (0 : Int32).toInt = 0 := rfl
  have e5 : (50000 : Int32).toInt = 50000 := rfl
  have e4 : (40000 : Int32).toInt = 40000 := rfl
  have ea : (cS0 s x + cR s x).toInt = (cS0 s x).toInt + (cR s x).toInt := by
    rw [ktI_add] <;> omega
  rw [ea] at a5
  omega
theorem tb_dj {s : S1} (H : cHI s) {x y : Int32} (hx : cLv false s x 5) (hy : cLv false s y 5) (ne : y ≠ x) {k : Int32} (a : cIn s x k) (b : cIn s y k) : False := by
  obtain ⟨S, W, p1, p2, p3, p4, p5, p6, p7⟩ := H.2.2.2.2.2
  unfold cIn at a b
  have wx := p5 x hx (by omega)
  have wy := p5 y hy (by omega)
  have sx : sz s (cS0 s x) = (cR s x).toInt := by
    unfold sz
    rw [wx.2, if_neg (fun z => ?_)]
    have := hx.1.1
    rw [i32_le] at this
    rw [i32_lt] at z
    omega
  have sy : sz s (cS0 s y) = (cR s y).toInt := by
    unfold sz
    rw [wy.2, if_neg (fun z => ?_)]
    have := hy.1.1
    rw [i32_le] at this
    rw [i32_lt] at z
    omega
  rcases Int.lt_trichotomy (cS0 s x).toInt (cS0 s y).toInt with q | q | q
  · have := p4 _ _ wx.1 wy.1 q
    omega
  · have := toInt_inj q
    rw [this, wy.2] at wx
    exact ne wx.2
  · have := p4 _ _ wy.1 wx.1 q
    omega
/-- a table's writes in its own room -/
def cTw (x : Int32) (s t : S1) : Prop := (∀ f j, f ≠ 18575 → (f = 18573 → j ≠ x) → gI t f j = gI s f j) ∧ (∀ f j, gL t f j = gL s f j) ∧ (∀ a j k, (a = 121 ∨ a = 123 ∨ a = 125 ∨ a = 126 → ¬ (j = 0 ∧ cIn s x k)) → gA t a j k = gA s a j k) ∧ ∀ a j k, (a = 122 ∨ a = 124 → ¬ (j = 0 ∧ cIn s x k)) → gB t a j k = gB s a j k
theorem cTw.hx {x : Int32} {s t : S1} (h : cTw x s t) : cHx s t := by
  refine ⟨fun f j q => h.1 f j q.2.2.2.2.1 (fun z => absurd z q.2.2.1), h.2.1, fun a j k q => h.2.2.1 a j k (fun z => ?_), fun a j k q => h.2.2.2 a j k (fun z => ?_), fun j _ => h.2.2.1 _ _ _ (fun z => absurd z (by decide))⟩
  · rcases z with z | z | z | z
    · exact absurd z q.1
    · exact absurd z q.2.1
    · exact absurd z q.2.2.1
    · exact absurd z q.2.2.2.1
  · rcases z with z | z
    · exact absurd z q.1
    · exact absurd z q.2
theorem cTw.refl (x : Int32) (s : S1) : cTw x s s := ⟨fun _ _ _ _ => rfl, fun _ _ => rfl, fun _ _ _ _ => rfl, fun _ _ _ _ => rfl⟩
theorem cTw.s0 {x : Int32} {s t : S1} (h : cTw x s t) (y : Int32) : cS0 t y = cS0 s y ∧ cR t y = cR s y ∧ cMt t y = cMt s y := ⟨h.1 _ _ (by decide) (fun z => absurd z (by decide)), h.1 _ _ (by decide) (fun z => absurd z (by decide)), h.1 _ _ (by decide) (fun z => absurd z (by decide))⟩
theorem cTw.cin {x : Int32} {s t : S1} (h : cTw x s t) {y k : Int32} : cIn t y k ↔ cIn s y k := by
  unfold cIn
  rw [(h.s0 y).1, (h.s0 y).2.1]
theorem cTw.trans {x : Int32} {s t u : S1} (a : cTw x s t) (b : cTw x t u) : cTw x s u := ⟨fun f j p q => (b.1 f j p q).trans (a.1 f j p q), fun f j => (b.2.1 f j).trans (a.2.1 f j), fun f j k p => (b.2.2.1 f j k (fun z w => p z ⟨w.1, a.cin.1 w.2⟩)).trans (a.2.2.1 f j k p), fun f j k p => (b.2.2.2 f j k (fun z w => p z ⟨w.1, a.cin.1 w.2⟩)).trans (a.2.2.2 f j k p)⟩
theorem cIn.add {s : S1} (H : cHI s) {x i : Int32} (hx : cLv false s x 5) (i0 : 0 ≤ i) (i1 : i < cR s x) : cIn s x (cS0 s x + i) ∧ (cS0 s x + i).toInt = (cS0 s x).toInt + i.toInt := by
  have w := (H.tI hx).1
  rw [i32_le] at i0
  rw [i32_lt] at i1
  have e0 : (0 : Int32).toInt = 0 := rfl
  have ea : (cS0 s x + i).toInt = (cS0 s x).toInt + i.toInt := by
    rw [ktI_add] <;> omega
  exact ⟨⟨by omega, by omega⟩, ea⟩
theorem cHI.tw {x : Int32} {s t : S1} (H : cHI s) (hx : cLv false s x 5) (h : cTw x s t) (tb : tbl t x) : cHI t := by
  have hk := h.hx
  refine H.tx hk (H.2.2.2.2.2.congr (h.1 _ _ (by decide) (fun z => absurd z (by decide))) (fun p => h.2.2.1 _ _ _ (fun z => absurd z (by decide))) (fun y => (h.s0 y).2.1) (fun y => (h.s0 y).1) (fun y => hk.lv) (h.2.2.1 _ _ _ (fun z => absurd z (by decide)))) (fun y hy => ?_)
  by_cases q : y = x
  · subst q
    exact tb
  · obtain ⟨w1, w2, w3⟩ := H.tbv hy
    have wy := H.tI hy
    have ee : cE t y = cE s y := h.1 _ _ (by decide) (fun _ => q)
    have lt : ∀ i, i < cE s y → i < cR s y := fun i a => by
      rw [i32_lt] at a ⊢
      omega
    have nin : ∀ i, 0 ≤ i → i < cR s y → ¬ ((0 : Int32) = 0 ∧ cIn s x (cS0 s y + i)) := fun i a b z => tb_dj H hx hy q z.2 (cIn.add H hy a b).1
    unfold tbl cTs
    rw [(h.s0 y).1, (h.s0 y).2.1, (h.s0 y).2.2, ee, hk.lv', show cTy t y = cTy s y from hk.I _ (by decide) _, show cTop t = cTop s from h.1 _ _ (by decide) (fun z => absurd z (by decide))]
    refine ⟨w1, fun i a b => ?_, fun ty => ⟨(w3 ty).1, fun i a b => ?_, fun i a b => ?_⟩⟩
    · have n := nin i a (lt i b)
      rw [show cKk t (cS0 s y + i) = cKk s (cS0 s y + i) from h.2.2.1 _ _ _ (fun _ => n), show cVk t (cS0 s y + i) = cVk s (cS0 s y + i) from h.2.2.1 _ _ _ (fun _ => n), show cKv t (cS0 s y + i) = cKv s (cS0 s y + i) from h.2.2.2 _ _ _ (fun _ => n), show cVv t (cS0 s y + i) = cVv s (cS0 s y + i) from h.2.2.2 _ _ _ (fun _ => n)]
      exact w2 i a b
    · rw [show cHd t (cS0 s y + i) = cHd s (cS0 s y + i) from h.2.2.1 _ _ _ (fun _ => nin i a b)]
      exact (w3 ty).2.1 i a b
    · rw [show cCh t (cS0 s y + i) = cCh s (cS0 s y + i) from h.2.2.1 _ _ _ (fun _ => nin i a (lt i b))]
      exact (w3 ty).2.2 i a b
