/-! The class: make, and plain things. -/
def cMg (s s0 : S1) : Prop := s0 = s ∨ (gI s 14221 0 = 0 ∧ cGc s s0)
/-- the heap, with the roots where a collection may come -/
def cHR (s : S1) : Prop := cHI s ∧ (gI s 14221 0 = 0 → cRt s)
theorem cGc.ld {s s0 : S1} (h : cGc s s0) : gI s0 14221 0 = gI s 14221 0 := h.1 _ _ (by decide)
theorem cMg.ld {s s0 : S1} (h : cMg s s0) : gI s0 14221 0 = gI s 14221 0 := by
  rcases h with rfl | h
  · rfl
  · exact h.2.ld
/-- what make leaves -/
def mkQ (s : S1) (n e : Nat × Nat) (T u b : Int32) (r : Int32 × (Nat × Nat)) (s' : S1) : Prop := ∃ s0, cMg s s0 ∧ cHR s0 ∧ cRo s0 n e ∧ (((r.1 = -10 ∨ r.1 = -11) ∧ r.2 = n ∧ s' = s0) ∨ (0 ≤ r.1 ∧ cMd r.1 T u b s0 s' ∧ (T = 7 → cTl s0 11 < 32) ∧ cRo s' r.2 (e.1 + 1, e.2 + u.toInt.toNat + b.toInt.toNat)))
theorem make_ok {s : S1} {n e : Nat × Nat} (H : cHR s) (R : cRo s n e) (T u b : Int32) (hu : 0 ≤ u.toInt ∧ u.toInt ≤ 1000) (hb : 0 ≤ b.toInt ∧ b.toInt ≤ 400000) :
    ok (M_He_make n T u b) s (mkQ s n e T u b) := by
  have al := R.1
  have m11 : mkQ s n e T u b (-11, n) s := ⟨s, .inl rfl, H, R, .inl ⟨.inr rfl, rfl, rfl⟩⟩
  simp only [M_He_make, M_He_make_j40, ok_B, ok_C, ok_R, ok_L, ok_K, ok_GI, ok_GL, ok_PI, ok_PL, ok_AI, ok_AL, ok_SI, ok_SL, ok_CI, cmp_lt, cmp_le, cmp_gt, cmp_ge, cmp_eq, nar0, nar1, Sum.elim_inl, Sum.elim_inr, ok_PzT, ok_PzC, ok_PzP, ok_PrC, ok_PrP, ok_PrF, ok_PrN, ok_Ln, ok_CL, ok_Nw, ok_S, ok_Ks, ok_Nz]
  refine ⟨by decide, fun c => m11, fun c => ⟨by decide, fun d => m11, fun d => ⟨by decide, fun f => ?_, fun f => m11⟩⟩⟩
  change ¬ 60000 ≤ cTl s 12 at c
  change ¬ 300000 < cTl s 13 + u at d
  change cTl s 14 + b ≤ 400000 at f
  have e6 : (60000 : Int32).toInt = 60000 := rfl
  have e3 : (300000 : Int32).toInt = 300000 := rfl
  have e4 : (400000 : Int32).toInt = 400000 := rfl
  unfold cAl at al
  rw [i32_le] at c
  rw [i32_lt, ktI_add (by omega)] at d
  rw [i32_le, ktI_add (by omega)] at f
  have go : ∀ s0, cMg s s0 → cHR s0 → cRo s0 n e → (∀ j, j ≠ 3 ∧ j ≠ 6 ∧ j ≠ 11 ∧ j ≠ 5 → cTl s0 j = cTl s j) → ok (M_He_make_j62 T u b n) s0 (mkQ s n e T u b) := fun s0 mg h0 r0 tl => by
    refine ok_mono (make62_ok h0.1 r0 T u b ⟨hu.1, ?_⟩ ⟨hb.1, ?_⟩ ?_) ?_
    · rw [tl 13 (by decide)]
      omega
    · rw [tl 14 (by decide)]
      omega
    · rw [tl 12 (by decide)]
      omega
    · rintro r s' (⟨rfl, rfl⟩ | w)
      · exact ⟨_, mg, h0, r0, .inl ⟨.inl rfl, rfl, rfl⟩⟩
      · exact ⟨_, mg, h0, r0, .inr w⟩
  refine ok_mono (isFull_ok s T) ?_
  rintro r s ⟨rfl, -⟩
  refine ⟨fun _ => go s (.inl rfl) H R (fun _ _ => rfl), fun _ => ⟨fun l => ?_, fun l => go s (.inl rfl) H R (fun _ _ => rfl)⟩⟩
  refine ok_mono (clean_ok H.1 (H.2 l)) ?_
  rintro - s0 ⟨h1, h2, h3⟩
  exact go s0 (.inr ⟨l, h3⟩) ⟨h1, fun _ => h2⟩ (R.gc h3) h3.2.2.2.2.1
theorem cHI.gen {x T : Int32} {s t : S1} (H : cHI s) (ha : cAd x (-1) s t) (hnw : cNw x s t) (hT' : 4 ≤ T ∧ T ≤ 9) (T7 : T ≠ 7) (ex : cTy t x = T) (n4 : (cTl s 4).toInt ≤ (cTl t 4).toInt)
    (ox : cPv (cLv false t) t x ∧ cTs t x ∧ cSy t x = 0 ∧ 0 ≤ (cNu t x).toInt ∧ (cNu t x).toInt < (cTl t 4).toInt) (t6 : cTl t 6 = cTl s 6) (t11 : cTl t 11 = cTl s 11) (fc : 0 ≤ cFc t ∧ (cTl t 3).toInt + (cFc t).toInt = (cN t).toInt) (fr : ∀ i, cFr t i = cFr s i) (fi : ∀ i, 0 ≤ i → i < cFc t → i < cFc s ∧ cFr s i ≠ x)
    (bs : cBs t) (nx : ∀ y, y ≠ x → cNx t y = cNx s y) (no : ∀ c, c ≠ -1 → oNo t c = oNo s c) (h5 : T = 5 → (cR t x).toInt ≤ 0) (h8 : T = 8 → cLk t x < 0) : cHI t := by
  have nc : ∀ c, pC s c ∨ pC t c → c ≠ -1 := fun c p z => by
    subst z
    rcases p with p | p
    · exact absurd p.1.1 (by decide)
    · exact absurd p.1.1 (by decide)
  have T0 : T ≠ 0 := fun z => by
    rw [z] at hT'
    exact absurd hT'.1 (by decide)
  have et : ∀ y, y ≠ x → cTy t y = cTy s y := fun y q => ha.I _ _ (by decide) (.inl q)
  have th := ha.th H (fun p => absurd rfl (nc _ (.inl p))) hnw hT' ex n4 ox
  have lv := fun {y u} (u0 : u ≠ 0) => hnw.lv H.1 T0 ex et (y := y) (u := u) u0
  have lv7 : ∀ y, cLv false t y 7 ↔ cLv false s y 7 := fun y => by
    rw [lv (by decide)]
    exact ⟨fun w => w.elim (fun w => w.1) (fun w => absurd w.2.symm T7), fun w => .inl ⟨w, hnw.old w (by decide)⟩⟩
  have epc : ∀ c, pC t c ↔ pC s c := fun c => by
    by_cases q : c = -1
    · subst q
      exact ⟨fun w => absurd rfl (nc _ (.inr w)), fun w => absurd rfl (nc _ (.inl w))⟩
    · unfold pC
      rw [ha.C _ _ (.inl rfl) q]
  have esl : ∀ c, c ≠ -1 → oSl t c = oSl s c := fun c q => ha.C _ _ (.inr (.inr (.inr rfl))) q
  have mem : ∀ c, c ≠ -1 → 0 ≤ c → ∀ y, cOp t c y ↔ cOp s c y := fun c _ c0 y => by
    unfold cOp
    rw [lv (by decide)]
    constructor
    · rintro ⟨w | w, v⟩
      · exact ⟨w.1, by rw [← show cLk t y = cLk s y from ha.I _ _ (by decide) (.inl w.2)]; exact v⟩
      · have := h8 w.2.symm
        rw [← w.1, v] at this
        exact absurd c0 (by clear H ha hnw th lv lv7; grind)
    · rintro ⟨w, v⟩
      have q := hnw.old w (by decide)
      exact ⟨.inl ⟨w, q⟩, by rw [show cLk t y = cLk s y from ha.I _ _ (by decide) (.inl q)]; exact v⟩
  refine ⟨th.1, th.2, bs, hnw.fl (T := T) H.2.2.2.1 et fc fr fi, ⟨fun c p l => ?_, fun y w l => ?_, ?_⟩, ?_⟩
  · have cn := nc c (.inr p)
    rw [esl c cn] at l ⊢
    have p' := (epc c).1 p
    obtain ⟨w1, w2, w3, w4⟩ := H.2.2.2.2.1.1 c p' l
    have q := hnw.old w1 (by decide)
    refine ⟨(lv7 _).2 w1, ?_, w3.congr (mem c cn p'.1.1) (fun y m => ?_) (fun y m => ?_) (no c cn), fun y m => ?_⟩
    · rw [show cLk t (oSl s c) = cLk s (oSl s c) from ha.I _ _ (by decide) (.inl q)]
      exact w2
    · rw [show cPl t y = cPl s y from ha.I _ _ (by decide) (.inl (hnw.old m.1 (by decide)))]
    · exact nx y (hnw.old m.1 (by decide))
    · have m' := (mem c cn p'.1.1 y).1 m
      rw [show cPl t y = cPl s y from ha.I _ _ (by decide) (.inl (hnw.old m'.1 (by decide)))]
      exact w4 y m'
  · rcases (lv (by decide)).1 w with v | v
    · have e : cLk t y = cLk s y := ha.I _ _ (by decide) (.inl v.2)
      rw [e] at l ⊢
      have z := H.2.2.2.2.1.2.1 y v.1 l
      refine ⟨(epc _).2 z.1, ?_⟩
      rw [esl _ (nc _ (.inl z.1))]
      exact z.2
    · have := h8 v.2.symm
      rw [← v.1] at this
      exact absurd l (by clear H ha hnw th lv lv7 mem; grind)
  · rw [t11, H.2.2.2.2.1.2.2]
    unfold cCm
    congr 1
    refine List.countP_congr (fun i hi => ?_)
    have hi' := List.mem_range.1 hi
    have q : Int32.ofNat i ≠ -1 := fun z => by
      have := Int32.toInt_ofNat_of_lt (n := i) (by omega)
      rw [z] at this
      have e : (-1 : Int32).toInt = -1 := rfl
      omega
    rw [esl _ q, ha.C 19071 _ (.inl rfl) q]
  · obtain ⟨S, W, p1, p2, p3, p4, p5, p6, p7⟩ := H.2.2.2.2.2
    have eo : ∀ p, cOw t p = cOw s p := fun p => ha.A _ _ (.inr (.inr (.inr (.inr rfl))))
    have esz : ∀ p, S p → sz t p = sz s p := fun p sp => by
      unfold sz
      rw [eo]
      by_cases q : cOw s p < 0
      · rw [if_pos q, if_pos q]
      · rw [if_neg q, if_neg q]
        have w := (p3 p sp).2.2 (by clear H ha hnw th lv lv7 mem p3; grind)
        rw [show cR t (cOw s p) = cR s (cOw s p) from ha.I _ _ (by decide) (.inl (hnw.old w.1 (by decide)))]
    refine ⟨S, W, ?_⟩
    unfold cPoW
    rw [ha.top, t6]
    refine ⟨p1, p2, fun p sp => ?_, fun p q sp sq l => ?_, fun y w r => ?_, p6, p7⟩
    · rw [esz p sp, eo]
      obtain ⟨a1, a2, a3⟩ := p3 p sp
      refine ⟨a1, a2, fun o => ?_⟩
      have w := a3 o
      have q := hnw.old w.1 (by decide)
      exact ⟨(lv (by decide)).2 (.inl ⟨w.1, q⟩), (ha.I _ _ (by decide) (.inl q)).trans w.2⟩
    · rw [esz p sp]
      exact p4 p q sp sq l
    · rcases (lv (by decide)).1 w with v | v
      · have e1 : cR t y = cR s y := ha.I _ _ (by decide) (.inl v.2)
        have e2 : cS0 t y = cS0 s y := ha.I _ _ (by decide) (.inl v.2)
        rw [e1] at r
        rw [e2, eo]
        exact p5 y v.1 r
      · have := h5 v.2.symm
        rw [← v.1] at this
        omega
theorem cHI.plain {x T : Int32} {s t : S1} (H : cHI s) (ha : cAd x (-1) s t) (hnw : cNw x s t) (hT : T = 5 ∨ T = 6 ∨ T = 8 ∨ T = 9) (ex : cTy t x = T) (n4 : (cTl s 4).toInt ≤ (cTl t 4).toInt)
    (ox : cPv (cLv false t) t x ∧ cTs t x ∧ cSy t x = 0 ∧ 0 ≤ (cNu t x).toInt ∧ (cNu t x).toInt < (cTl t 4).toInt) (t6 : cTl t 6 = cTl s 6) (t11 : cTl t 11 = cTl s 11) (fc : 0 ≤ cFc t ∧ (cTl t 3).toInt + (cFc t).toInt = (cN t).toInt) (fr : ∀ i, cFr t i = cFr s i) (fi : ∀ i, 0 ≤ i → i < cFc t → i < cFc s ∧ cFr s i ≠ x)
    (bk : ∀ i, cBk t i = cBk s i) (nx : ∀ y, y ≠ x → cNx t y = cNx s y) (no : ∀ c, c ≠ -1 → oNo t c = oNo s c) (h5 : T = 5 → (cR t x).toInt ≤ 0) (h8 : T = 8 → cLk t x < 0) : cHI t := by
  have hT' : 4 ≤ T ∧ T ≤ 9 := by
    rcases hT with rfl | rfl | rfl | rfl <;> decide
  have T0 : T ≠ 0 := by
    rcases hT with rfl | rfl | rfl | rfl <;> decide
  have T4 : T ≠ 4 := by
    rcases hT with rfl | rfl | rfl | rfl <;> decide
  have T7 : T ≠ 7 := by
    rcases hT with rfl | rfl | rfl | rfl <;> decide
  have et : ∀ y, y ≠ x → cTy t y = cTy s y := fun y q => ha.I _ _ (by decide) (.inl q)
  have lv := fun {y u} (u0 : u ≠ 0) => hnw.lv H.1 T0 ex et (y := y) (u := u) u0
  have lv4 : ∀ y, cLv false t y 4 ↔ cLv false s y 4 := fun y => by
    rw [lv (by decide)]
    exact ⟨fun w => w.elim (fun w => w.1) (fun w => absurd w.2.symm T4), fun w => .inl ⟨w, hnw.old w (by decide)⟩⟩
  refine H.gen ha hnw hT' T7 ex n4 ox t6 t11 fc fr fi (H.2.2.1.congr lv4 (fun y w => ?_) (fun y w => ?_) (fun y w => nx y (hnw.old w (by decide))) bk) nx no h5 h8
  · exact ha.I _ _ (by decide) (.inl (hnw.old w (by decide)))
  · exact ha.I _ _ (by decide) (.inl (hnw.old w (by decide)))
/-- a new string -/
theorem cHI.str {x : Int32} {s t : S1} (H : cHI s) (ha : cAd x (-1) s t) (hnw : cNw x s t) (ex : cTy t x = 4) (n4 : (cTl s 4).toInt ≤ (cTl t 4).toInt) (nu : cNu t x = cTl s 4)
    (ox : cBf t x = 1 ∧ cSy t x = 0 ∧ 0 ≤ (cNu t x).toInt ∧ (cNu t x).toInt < (cTl t 4).toInt) (t6 : cTl t 6 = cTl s 6) (t11 : cTl t 11 = cTl s 11) (fc : 0 ≤ cFc t ∧ (cTl t 3).toInt + (cFc t).toInt = (cN t).toInt) (fr : ∀ i, cFr t i = cFr s i) (fi : ∀ i, 0 ≤ i → i < cFc t → i < cFc s ∧ cFr s i ≠ x)
    (nx : ∀ y, y ≠ x → cNx t y = cNx s y) (no : ∀ c, c ≠ -1 → oNo t c = oNo s c) (nxx : cNx t x = cBk s (bkt (cPl t x))) (bk : ∀ i, cBk t i = if i = bkt (cPl t x) then x else cBk s i) : cHI t := by
  have et : ∀ y, y ≠ x → cTy t y = cTy s y := fun y q => ha.I _ _ (by decide) (.inl q)
  have lv := fun {y u} (u0 : u ≠ 0) => hnw.lv H.1 (by decide) ex et (y := y) (u := u) u0
  have xlt := hnw.lt H.1
  refine H.gen ha hnw ⟨by decide, by decide⟩ (by decide) ex n4 ⟨cPv.of4 ex ox.1, fun z => absurd (ex.symm.trans z) (by decide), ox.2⟩ t6 t11 fc fr fi ?_ nx no (fun z => absurd z (by decide)) (fun z => absurd z (by decide))
  intro i i0 i1
  have old := H.2.2.1 i i0 i1
  have mem : ∀ y, cBm t i y ↔ cBm s i y ∨ (y = x ∧ i = bkt (cPl t x)) := fun y => by
    unfold cBm
    rw [lv (by decide)]
    constructor
    · rintro ⟨w | w, v⟩
      · exact .inl ⟨w.1, by rw [← show cPl t y = cPl s y from ha.I _ _ (by decide) (.inl w.2)]; exact v⟩
      · exact .inr ⟨w.1, by rw [← v, w.1]⟩
    · rintro (⟨w, v⟩ | w)
      · have q := hnw.old w (by decide)
        exact ⟨.inl ⟨w, q⟩, by rw [show cPl t y = cPl s y from ha.I _ _ (by decide) (.inl q)]; exact v⟩
      · exact ⟨.inr ⟨w.1, rfl⟩, by rw [w.1]; exact w.2.symm⟩
  by_cases q : i = bkt (cPl t x)
  · have l1 : Ls (cBm s i) (fun y => (cNu t y).toInt) (cNx t) (cBk s i) := old.congr (fun _ => Iff.rfl) (fun y m => by
      rw [show cNu t y = cNu s y from ha.I _ _ (by decide) (.inl (hnw.old m.1 (by decide)))]) (fun y m => nx y (hnw.old m.1 (by decide))) rfl
    have l2 := l1.cons xlt.1 (by rw [nxx, q]) (fun y m => by
      rw [show cNu t y = cNu s y from ha.I _ _ (by decide) (.inl (hnw.old m.1 (by decide))), nu]
      exact ((H.2.1 y m.1.1.1 m.1.1.2).2.2.2.2.2 (by rw [m.1.2.1]; decide)).2)
    refine l2.congr (fun y => ?_) (fun _ _ => rfl) (fun _ _ => rfl) (by rw [bk, if_pos q])
    rw [mem]
    exact ⟨fun w => w.imp id (fun w => w.1), fun w => w.imp id (fun w => ⟨w, q⟩)⟩
  · refine old.congr (fun y => ?_) (fun y m => ?_) (fun y m => nx y (hnw.old m.1 (by decide))) (by rw [bk, if_neg q])
    · rw [mem]
      exact ⟨fun w => w.elim id (fun w => absurd w.2 q), fun w => .inl w⟩
    · rw [show cNu t y = cNu s y from ha.I _ _ (by decide) (.inl (hnw.old m.1 (by decide)))]
