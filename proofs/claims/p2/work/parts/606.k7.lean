/-! The class: the sweep. -/
theorem cPo.congr {s t : S1} (h : cPo s) (etop : cTop t = cTop s) (eo : ∀ p, cOw t p = cOw s p) (eR : ∀ y, cR t y = cR s y) (eS : ∀ y, cS0 t y = cS0 s y) (el : ∀ y, cLv false t y 5 ↔ cLv false s y 5) (e6 : cTl t 6 = cTl s 6) : cPo t := by
  obtain ⟨S, W, h⟩ := h
  refine ⟨S, W, ?_⟩
  have esz : ∀ p, sz t p = sz s p := fun p => by
    unfold sz
    rw [eo, eR]
  unfold cPoW at h ⊢
  simp only [esz, etop, eo, eR, eS, el, e6]
  exact h
theorem cPo.tl {s : S1} (h : cPo s) : 0 ≤ (cTl s 6).toInt ∧ (cTl s 6).toInt ≤ 50000 := by
  obtain ⟨S, W, h1, ⟨h2, h2'⟩, h3, h4, h5, h6, h7⟩ := h
  have e0 : (0 : Int32).toInt = 0 := rfl
  have s0 : S 0 ∨ 0 = cTop s := by
    by_cases q : 0 < (cTop s).toInt
    · exact .inl (h2' q)
    · exact .inr (toInt_inj (by omega))
  have w := h7 0 _ s0 (.inr rfl) (by omega)
  rw [← h6]
  omega
theorem cBs.congr {s t : S1} (h : cBs s) (el : ∀ y, cLv false t y 4 ↔ cLv false s y 4) (ep : ∀ y, cLv false s y 4 → cPl t y = cPl s y) (eu : ∀ y, cLv false s y 4 → cNu t y = cNu s y) (ex : ∀ y, cLv false s y 4 → cNx t y = cNx s y) (eb : ∀ b, cBk t b = cBk s b) : cBs t := by
  intro b b0 b1
  refine (h b b0 b1).congr (fun y => ?_) (fun y m => ?_) (fun y m => ex y m.1) (eb b)
  · unfold cBm
    rw [el]
    exact ⟨fun w => ⟨w.1, by rw [← ep y w.1]; exact w.2⟩, fun w => ⟨w.1, by rw [ep y w.1]; exact w.2⟩⟩
  · rw [eu y m.1]
def cSw (s2 : S1) (i : Int32) (s : S1) : Prop :=
  (∀ f j, f ≠ 18560 ∧ f ≠ 14211 ∧ f ≠ 18565 ∧ f ≠ 18564 ∧ f ≠ 18567 ∧ f ≠ 18950 ∧ f ≠ 18954 → gI s f j = gI s2 f j) ∧
  (∀ f j, f ≠ 18568 → gL s f j = gL s2 f j) ∧
  (∀ a j k, a ≠ 113 ∧ a ≠ 114 ∧ a ≠ 117 ∧ a ≠ 127 → gA s a j k = gA s2 a j k) ∧
  (∀ a j k, gB s a j k = gB s2 a j k) ∧
  (∀ j, j ≠ 3 ∧ j ≠ 6 ∧ j ≠ 11 → cTl s j = cTl s2 j) ∧
  (∀ x, cTy s x = if (0 ≤ x ∧ x < i) ∧ cRe s2 x = 0 then 0 else cTy s2 x) ∧
  (cBs s) ∧
  (cFl s) ∧
  (cPo s) ∧
  (∀ y, (cLk s y = cLk s2 y ∧ cCk s y = cCk s2 y ∧ cCv s y = cCv s2 y) ∨ ((0 ≤ y ∧ y < cN s2) ∧ cTy s2 y = 8 ∧ 0 ≤ cLk s2 y ∧ cLk s y = -1 ∧ (cRe s2 y ≠ 0 → cV (cLv true s2) (cCk s y) (cCv s y)) ∧ cCk s y = oRk s2 (cLk s2 y) (cPl s2 y) ∧ cCv s y = oRv s2 (cLk s2 y) (cPl s2 y))) ∧
  (∀ y, cTy s2 y ≠ 4 → cNx s y = cNx s2 y) ∧
  (∀ c, oSl s c = oSl s2 c ∨ (oSl s c = -1 ∧ cRe s2 (oSl s2 c) = 0 ∧ oSl s2 c < i)) ∧
  (∀ c, pC s2 c → 0 ≤ oSl s c → cTy s (oSl s c) = 7 ∧ Ls (fun y => ((0 ≤ y ∧ y < cN s2) ∧ cTy s2 y = 8) ∧ cLk s y = c) (fun y => (cPl s2 y).toInt) (cNx s2) (oNo s c)) ∧
  (∀ c, pC s2 c → oSl s c < 0 → ∀ y, (0 ≤ y ∧ y < cN s2) → cTy s2 y = 8 → cLk s y ≠ c) ∧
  ((cTl s 11).toInt = cCm s) ∧
  (∀ y, cLk s y = cLk s2 y ∨ oSl s (cLk s2 y) < 0) ∧
  (∀ c, 0 ≤ oSl s c → oNo s c = oNo s2 c)
theorem cSw.I {s2 : S1} {i : Int32} {s : S1} (h : cSw s2 i s) : ∀ f j, f ≠ 18560 ∧ f ≠ 14211 ∧ f ≠ 18565 ∧ f ≠ 18564 ∧ f ≠ 18567 ∧ f ≠ 18950 ∧ f ≠ 18954 → gI s f j = gI s2 f j := h.1
theorem cSw.L {s2 : S1} {i : Int32} {s : S1} (h : cSw s2 i s) : ∀ f j, f ≠ 18568 → gL s f j = gL s2 f j := h.2.1
theorem cSw.A {s2 : S1} {i : Int32} {s : S1} (h : cSw s2 i s) : ∀ a j k, a ≠ 113 ∧ a ≠ 114 ∧ a ≠ 117 ∧ a ≠ 127 → gA s a j k = gA s2 a j k := h.2.2.1
theorem cSw.B {s2 : S1} {i : Int32} {s : S1} (h : cSw s2 i s) : ∀ a j k, gB s a j k = gB s2 a j k := h.2.2.2.1
theorem cSw.tl {s2 : S1} {i : Int32} {s : S1} (h : cSw s2 i s) : ∀ j, j ≠ 3 ∧ j ≠ 6 ∧ j ≠ 11 → cTl s j = cTl s2 j := h.2.2.2.2.1
theorem cSw.ty {s2 : S1} {i : Int32} {s : S1} (h : cSw s2 i s) : ∀ x, cTy s x = if (0 ≤ x ∧ x < i) ∧ cRe s2 x = 0 then 0 else cTy s2 x := h.2.2.2.2.2.1
theorem cSw.bs {s2 : S1} {i : Int32} {s : S1} (h : cSw s2 i s) : cBs s := h.2.2.2.2.2.2.1
theorem cSw.fl {s2 : S1} {i : Int32} {s : S1} (h : cSw s2 i s) : cFl s := h.2.2.2.2.2.2.2.1
theorem cSw.po {s2 : S1} {i : Int32} {s : S1} (h : cSw s2 i s) : cPo s := h.2.2.2.2.2.2.2.2.1
theorem cSw.vr {s2 : S1} {i : Int32} {s : S1} (h : cSw s2 i s) : ∀ y, (cLk s y = cLk s2 y ∧ cCk s y = cCk s2 y ∧ cCv s y = cCv s2 y) ∨ ((0 ≤ y ∧ y < cN s2) ∧ cTy s2 y = 8 ∧ 0 ≤ cLk s2 y ∧ cLk s y = -1 ∧ (cRe s2 y ≠ 0 → cV (cLv true s2) (cCk s y) (cCv s y)) ∧ cCk s y = oRk s2 (cLk s2 y) (cPl s2 y) ∧ cCv s y = oRv s2 (cLk s2 y) (cPl s2 y)) := h.2.2.2.2.2.2.2.2.2.1
theorem cSw.nx {s2 : S1} {i : Int32} {s : S1} (h : cSw s2 i s) : ∀ y, cTy s2 y ≠ 4 → cNx s y = cNx s2 y := h.2.2.2.2.2.2.2.2.2.2.1
theorem cSw.sl {s2 : S1} {i : Int32} {s : S1} (h : cSw s2 i s) : ∀ c, oSl s c = oSl s2 c ∨ (oSl s c = -1 ∧ cRe s2 (oSl s2 c) = 0 ∧ oSl s2 c < i) := h.2.2.2.2.2.2.2.2.2.2.2.1
theorem cSw.co {s2 : S1} {i : Int32} {s : S1} (h : cSw s2 i s) : ∀ c, pC s2 c → 0 ≤ oSl s c → cTy s (oSl s c) = 7 ∧ Ls (fun y => ((0 ≤ y ∧ y < cN s2) ∧ cTy s2 y = 8) ∧ cLk s y = c) (fun y => (cPl s2 y).toInt) (cNx s2) (oNo s c) := h.2.2.2.2.2.2.2.2.2.2.2.2.1
theorem cSw.cl {s2 : S1} {i : Int32} {s : S1} (h : cSw s2 i s) : ∀ c, pC s2 c → oSl s c < 0 → ∀ y, (0 ≤ y ∧ y < cN s2) → cTy s2 y = 8 → cLk s y ≠ c := h.2.2.2.2.2.2.2.2.2.2.2.2.2.1
theorem cSw.cm {s2 : S1} {i : Int32} {s : S1} (h : cSw s2 i s) : (cTl s 11).toInt = cCm s := h.2.2.2.2.2.2.2.2.2.2.2.2.2.2.1
theorem cSw.vo {s2 : S1} {i : Int32} {s : S1} (h : cSw s2 i s) : ∀ y, cLk s y = cLk s2 y ∨ oSl s (cLk s2 y) < 0 := h.2.2.2.2.2.2.2.2.2.2.2.2.2.2.2.1
theorem cSw.no {s2 : S1} {i : Int32} {s : S1} (h : cSw s2 i s) : ∀ c, 0 ≤ oSl s c → oNo s c = oNo s2 c := h.2.2.2.2.2.2.2.2.2.2.2.2.2.2.2.2
theorem cLv_f {s : S1} {x t : Int32} : cLv false s x t ↔ (0 ≤ x ∧ x < cN s) ∧ cTy s x = t := by
  unfold cLv
  simp
theorem cSw.start {s : S1} (h : cHI s) : cSw s 0 s := by
  obtain ⟨h1, h2, h3, h4, h5, h6⟩ := h
  refine ⟨fun _ _ _ => rfl, fun _ _ _ => rfl, fun _ _ _ _ => rfl, fun _ _ _ => rfl, fun _ _ => rfl, fun x => ?_, h3, h4, h6, fun y => .inl ⟨rfl, rfl, rfl⟩, fun _ _ => rfl, fun c => .inl rfl, fun c p l => ?_, fun c p l y r t e => ?_, h5.2.2, fun y => .inl rfl, fun c _ => rfl⟩
  · rw [if_neg]
    rintro ⟨⟨a, b⟩, -⟩
    grind
  · have w := h5.1 c p l
    refine ⟨w.1.2.1, w.2.2.1.congr (fun y => ?_) (fun _ _ => rfl) (fun _ _ => rfl) rfl⟩
    unfold cOp
    rw [cLv_f]
  · have w := (h5.2.1 y (cLv_f.2 ⟨r, t⟩) (by rw [e]; exact p.1.1)).2
    rw [e] at w
    grind
/-- one place behind -/
theorem cSw.skip {s2 s : S1} {x : Int32} (h : cSw s2 x s) (hx : 0 ≤ x ∧ x < 4000) (hs : cTy s2 x = 0 ∨ cRe s2 x ≠ 0) : cSw s2 (x + 1) s := by
  refine ⟨h.I, h.L, h.A, h.B, h.tl, fun y => ?_, h.bs, h.fl, h.po, h.vr, h.nx, fun c => ?_, h.co, h.cl, h.cm, h.vo, h.no⟩
  rotate_left
  · refine (h.sl c).imp id (fun w => ⟨w.1, w.2.1, ?_⟩)
    have := w.2.2
    clear h hs
    grind
  rw [h.ty y]
  by_cases q : y = x
  · subst q
    rcases hs with z | z
    · rw [z]
      simp
    · rw [if_neg (fun w => z w.2), if_neg (fun w => z w.2)]
  · have : (0 ≤ y ∧ y < x) ↔ (0 ≤ y ∧ y < x + 1) := by
      clear h hs
      grind
    simp only [this]
theorem cSw.fin {s2 s t : S1} {x : Int32} (h : cSw s2 x s) (hn : cNr s) (hx : 0 ≤ x ∧ x < cN s) (hm : cRe s2 x = 0) (h0 : cTy s2 x ≠ 0)
    (I : ∀ f j, f ≠ 18560 ∧ f ≠ 14211 ∧ f ≠ 18565 ∧ f ≠ 18564 ∧ f ≠ 18567 ∧ f ≠ 18950 ∧ f ≠ 18954 → gI t f j = gI s f j)
    (L : ∀ f j, f ≠ 18568 → gL t f j = gL s f j) (A : ∀ a j k, a ≠ 113 ∧ a ≠ 114 ∧ a ≠ 117 ∧ a ≠ 127 → gA t a j k = gA s a j k) (B : ∀ a j k, gB t a j k = gB s a j k)
    (tl : ∀ j, j ≠ 3 ∧ j ≠ 6 ∧ j ≠ 11 → cTl t j = cTl s j) (et : ∀ y, cTy t y = if y = x then 0 else cTy s y) (ec : cFc t = cFc s + 1) (ef : ∀ i, cFr t i = if i = cFc s then x else cFr s i) (e3 : cTl t 3 = cTl s 3 - 1)
    (bs : cBs t) (po : cPo t)
    (vr : ∀ y, (cLk t y = cLk s2 y ∧ cCk t y = cCk s2 y ∧ cCv t y = cCv s2 y) ∨ ((0 ≤ y ∧ y < cN s2) ∧ cTy s2 y = 8 ∧ 0 ≤ cLk s2 y ∧ cLk t y = -1 ∧ (cRe s2 y ≠ 0 → cV (cLv true s2) (cCk t y) (cCv t y)) ∧ cCk t y = oRk s2 (cLk s2 y) (cPl s2 y) ∧ cCv t y = oRv s2 (cLk s2 y) (cPl s2 y)))
    (nx : ∀ y, cTy s2 y ≠ 4 → cNx t y = cNx s y) (sl : ∀ c, oSl t c = oSl s2 c ∨ (oSl t c = -1 ∧ cRe s2 (oSl s2 c) = 0 ∧ oSl s2 c < x + 1))
    (co : ∀ c, pC s2 c → 0 ≤ oSl t c → oSl t c ≠ x ∧ cTy s (oSl t c) = 7 ∧ Ls (fun y => ((0 ≤ y ∧ y < cN s2) ∧ cTy s2 y = 8) ∧ cLk t y = c) (fun y => (cPl s2 y).toInt) (cNx s2) (oNo t c))
    (cl : ∀ c, pC s2 c → oSl t c < 0 → ∀ y, (0 ≤ y ∧ y < cN s2) → cTy s2 y = 8 → cLk t y ≠ c) (cm : (cTl t 11).toInt = cCm t) (vo : ∀ y, cLk t y = cLk s2 y ∨ oSl t (cLk s2 y) < 0) (no : ∀ c, 0 ≤ oSl t c → oNo t c = oNo s2 c) : cSw s2 (x + 1) t := by
  have ht0 : cTy s x ≠ 0 := by
    rw [h.ty, if_neg]
    · exact h0
    · rintro ⟨⟨-, w⟩, -⟩
      exact absurd w (by clear h; grind)
  have x4 : x < 4000 := (hn.2 x hx.1 hx.2).1.2
  refine ⟨fun f j q => (I f j q).trans (h.I f j q), fun f j q => (L f j q).trans (h.L f j q), fun a j k q => (A a j k q).trans (h.A a j k q), fun a j k => (B a j k).trans (h.B a j k), fun j q => (tl j q).trans (h.tl j q), fun y => ?_, bs, h.fl.push hn hx ht0 (I _ _ (by decide)) et ec ef e3, po, vr, fun y q => (nx y q).trans (h.nx y q), sl, fun c p l => ?_, cl, cm, vo, no⟩
  · rw [et, h.ty]
    by_cases q : y = x
    · subst q
      rw [if_pos rfl, if_pos ⟨⟨hx.1, by clear h et ef; grind⟩, hm⟩]
    · rw [if_neg q]
      have : (0 ≤ y ∧ y < x) ↔ (0 ≤ y ∧ y < x + 1) := by
        clear h et ef
        grind
      simp only [this]
  · obtain ⟨c1, c2, c3⟩ := co c p l
    refine ⟨?_, c3⟩
    rw [et, if_neg c1]
    exact c2
/-- what the sweep writes of a place that goes -/
def cFt (x : Int32) (s t : S1) : Prop := (∀ f j, f ≠ 18560 ∧ f ≠ 14211 → gI t f j = gI s f j) ∧ (∀ f j, gL t f j = gL s f j) ∧ (∀ a j k, a ≠ 113 ∧ a ≠ 114 → gA t a j k = gA s a j k) ∧ (∀ a j k, gB t a j k = gB s a j k) ∧ (∀ y, cTy t y = if y = x then 0 else cTy s y) ∧ cFc t = cFc s + 1 ∧ (∀ i, cFr t i = if i = cFc s then x else cFr s i) ∧ ∀ j, cTl t j = if j = 3 then cTl s 3 - 1 else cTl s j
theorem sweep113_ok {s : S1} {x : Int32} {Q : (Int32 ⊕ Unit) → S1 → Prop} (hf : 0 ≤ cFc s ∧ cFc s < 4000) (hq : ∀ t, cFt x s t → Q (Sum.inl (x + 1)) t) : ok (M_He_sweep_j113 x x) s Q := by
  simp only [M_He_sweep_j113, M_He_sweep_j148, ok_B, ok_C, ok_R, ok_L, ok_K, ok_GI, ok_GL, ok_PI, ok_PL, ok_AI, ok_AL, ok_SI, ok_SL, ok_Pr, ok_CI, cmp_lt, cmp_le, cmp_gt, cmp_ge, cmp_eq, nar0, nar1, Sum.elim_inl, Sum.elim_inr]
  have e1 : gI (sI s 18560 x 0) 14211 0 = cFc s := by
    rw [gI_sI, if_neg (fun w => absurd w.1 (by decide))]
  have e2 : gI (sA (sI s 18560 x 0) 113 0 (cFc s) x) 14211 0 = cFc s := by
    rw [gI_sA]
    exact e1
  rw [e1, e2]
  refine ⟨hf, by decide, by decide, hq _ ⟨fun f j q => ?_, fun _ _ => rfl, fun a j k q => ?_, fun _ _ _ => rfl, fun y => ?_, ?_, fun i => ?_, fun j => ?_⟩⟩
  · rw [gI_sA, gI_sI, if_neg (fun w => q.2 w.1), gI_sA, gI_sI, if_neg (fun w => q.1 w.1)]
  · rw [gA_sA, if_neg (fun w => q.2 w.1), gA_sI, gA_sA, if_neg (fun w => q.1 w.1)]
    rfl
  · unfold cTy
    rw [gI_sA, gI_sI, if_neg (fun w => absurd w.1 (by decide)), gI_sA, gI_sI]
    by_cases q : y = x
    · rw [if_pos ⟨rfl, q⟩, if_pos q]
    · rw [if_neg (fun w => q w.2), if_neg q]
  · unfold cFc
    rw [gI_sA, gI_sI, if_pos ⟨rfl, rfl⟩]
  · unfold cFr
    rw [gA_sA, if_neg (fun w => absurd w.1 (by decide)), gA_sI, gA_sA]
    by_cases q : i = cFc s
    · rw [if_pos ⟨rfl, rfl, q⟩, if_pos q]
    · rw [if_neg (fun w => q w.2.2), if_neg q]
      rfl
  · unfold cTl
    rw [gA_sA]
    have e3 : ∀ j, gA (sI (sA (sI s 18560 x 0) 113 0 (cFc s) x) 14211 0 (cFc s + 1)) 114 0 j = gA s 114 0 j := fun j => by
      rw [gA_sI, gA_sA, if_neg (fun w => absurd w.1 (by decide))]
      rfl
    rw [e3, e3]
    by_cases q : j = 3
    · rw [if_pos ⟨rfl, rfl, q⟩, if_pos q]
    · rw [if_neg (fun w => q w.2.2), if_neg q]
theorem ty_at {s2 s : S1} {x : Int32} (h : cSw s2 x s) : cTy s x = cTy s2 x := by
  rw [h.ty, if_neg]
  rintro ⟨⟨-, w⟩, -⟩
  clear h
  grind
/-- what is neither string nor table nor coroutine goes -/
theorem cSw.plain {s2 s s3 t : S1} {x : Int32} (h : cSw s2 x s) (hn : cNr s) (hx : 0 ≤ x ∧ x < cN s) (hm : cRe s2 x = 0) (h0 : cTy s2 x ≠ 0) (h7 : cTy s2 x ≠ 7) (hf : cFt x s3 t)
    (I : ∀ f j, f ≠ 18565 → gI s3 f j = gI s f j) (L : ∀ f j, gL s3 f j = gL s f j) (A : ∀ a j k, a ≠ 114 ∧ a ≠ 117 ∧ a ≠ 127 → gA s3 a j k = gA s a j k) (B : ∀ a j k, gB s3 a j k = gB s a j k) (tl : ∀ j, j ≠ 6 → cTl s3 j = cTl s j)
    (nx : ∀ y, cTy s2 y ≠ 4 → cNx s3 y = cNx s y) (bs : cBs t) (po : cPo t) : cSw s2 (x + 1) t := by
  obtain ⟨f1, f2, f3, f4, f5, f6, f7, f8⟩ := hf
  have ety : ∀ y, cTy s3 y = cTy s y := fun y => I _ _ (by decide)
  have eI : ∀ f j, f ≠ 18560 ∧ f ≠ 14211 ∧ f ≠ 18565 → gI t f j = gI s f j := fun f j q => (f1 f j ⟨q.1, q.2.1⟩).trans (I f j q.2.2)
  have efc : cFc s3 = cFc s := I _ _ (by decide)
  have efr : ∀ i, cFr s3 i = cFr s i := fun i => A _ _ _ (by decide)
  refine h.fin hn hx hm h0 (fun f j q => eI f j ⟨q.1, q.2.1, q.2.2.1⟩) (fun f j _ => (f2 f j).trans (L f j)) (fun a j k q => (f3 a j k ⟨q.1, q.2.1⟩).trans (A a j k ⟨q.2.1, q.2.2.1, q.2.2.2⟩)) (fun a j k => (f4 a j k).trans (B a j k)) (fun j q => ?_) (fun y => by rw [f5, ety]) (by rw [f6, efc]) (fun i => by rw [f7, efc, efr]) (by rw [f8, if_pos rfl, tl 3 (by decide)]) bs po (fun y => ?_) (fun y q => ?_) (fun c => ?_) (fun c p l => ?_) (fun c p l y => ?_) ?_ (fun y => ?_) (fun c l => ?_)
  · rw [f8, if_neg q.1, tl j q.2.1]
  · have e1 : cLk t y = cLk s y := eI _ _ (by decide)
    have e2 : cCk t y = cCk s y := eI _ _ (by decide)
    have e3 : cCv t y = cCv s y := (f2 _ _).trans (L _ _)
    rw [e1, e2, e3]
    exact h.vr y
  · exact (f1 _ _ (by decide)).trans (nx y q)
  · have e1 : oSl t c = oSl s c := eI _ _ (by decide)
    rw [e1]
    refine (h.sl c).imp id (fun w => ⟨w.1, w.2.1, ?_⟩)
    have := w.2.2
    have := (hn.2 x hx.1 hx.2).1.2
    clear h f1 f2 f3 f4 f5 f6 f7 f8 eI efr ety
    grind
  · have e1 : oSl t c = oSl s c := eI _ _ (by decide)
    have e2 : oNo t c = oNo s c := eI _ _ (by decide)
    have e3 : ∀ y, cLk t y = cLk s y := fun y => eI _ _ (by decide)
    rw [e1] at l ⊢
    rw [e2]
    have w := h.co c p l
    refine ⟨fun z => ?_, w.1, w.2.congr (fun y => by rw [e3]) (fun _ _ => rfl) (fun _ _ => rfl) rfl⟩
    rw [z, ty_at h] at w
    exact h7 w.1
  · have e1 : oSl t c = oSl s c := eI _ _ (by decide)
    have e3 : ∀ y, cLk t y = cLk s y := fun y => eI _ _ (by decide)
    rw [e1] at l
    rw [e3]
    exact h.cl c p l y
  · rw [f8, if_neg (by decide), tl 11 (by decide), h.cm]
    unfold cCm
    simp only [show ∀ n, oSl t n = oSl s n from fun n => eI _ _ (by decide), show ∀ n, gI t 19071 n = gI s 19071 n from fun n => eI _ _ (by decide)]
  · have e1 : oSl t (cLk s2 y) = oSl s (cLk s2 y) := eI _ _ (by decide)
    have e3 : cLk t y = cLk s y := eI _ _ (by decide)
    rw [e1, e3]
    exact h.vo y
  · have e1 : oSl t c = oSl s c := eI _ _ (by decide)
    have e2 : oNo t c = oNo s c := eI _ _ (by decide)
    rw [e1] at l
    rw [e2]
    exact h.no c l
