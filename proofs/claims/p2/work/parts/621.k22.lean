/-! The class: a register's variable, found or made. -/
def cNo (x : Int32) (s t : S1) : Prop := cLv false t x 8 ∧ (∀ y u, u ≠ 0 → cLv false s y u → cLv false t y u ∧ y ≠ x) ∧ (∀ f j, f ≠ 14209 ∧ f ≠ 14211 ∧ f ≠ 18565 ∧ f ≠ 18954 → (f / 128 = 145 → j ≠ x) → gI t f j = gI s f j) ∧ (∀ f j, (f / 128 = 145 → j ≠ x) → gL t f j = gL s f j) ∧ (∀ a j k, a ≠ 114 → gA t a j k = gA s a j k) ∧ (∀ a j k, gB t a j k = gB s a j k) ∧ ∀ y u, u ≠ 0 → y ≠ x → cLv false t y u → cLv false s y u
def ovQ (s : S1) (e : Nat × Nat) (c r : Int32) (q : Int32 × (Nat × Nat)) (s' : S1) : Prop := (s' = s ∧ cOp s c q.1 ∧ cPl s q.1 = r ∧ cRo s q.2 e) ∨ ∃ s0, cMg s s0 ∧ cHR s0 ∧ cRo s' q.2 e ∧ (((q.1 = -10 ∨ q.1 = -11) ∧ s' = s0) ∨ (0 ≤ q.1 ∧ cHR s' ∧ cNo q.1 s0 s' ∧ cOp s' c q.1 ∧ cPl s' q.1 = r))
theorem cNo.rt {x : Int32} {s t : S1} (h : cNo x s t) (R : cRt s) : cRt t := by
  refine R.up (fun y u u0 l => (h.2.1 y u u0 l).1) (fun f j q => ?_) (fun a j k q => ?_) (fun a j k _ => h.2.2.2.2.2.1 a j k) (fun y l => ?_)
  · refine h.2.2.1 f j ?_ (fun z => ?_)
    · rcases q with rfl | rfl | rfl | rfl | rfl | rfl | rfl | rfl | rfl | rfl <;> decide
    · rcases q with rfl | rfl | rfl | rfl | rfl | rfl | rfl | rfl | rfl | rfl <;> exact absurd z (by decide)
  · refine h.2.2.2.2.1 a j k ?_
    rcases q with rfl | rfl | rfl | rfl | rfl <;> decide
  · exact h.2.2.1 _ _ (by decide) (fun _ => (h.2.1 y 4 (by decide) l).2)
theorem ov_fin {s0 s1 t : S1} {x c r a z : Int32} {m e : Nat × Nat} (h0 : cHR s0) (r0 : 0 ≤ (cTl s0 4).toInt) (md : cMd x 8 0 0 s0 s1) (r1 : cRo s1 m e) (hc : pC s0 c) (hl : 0 ≤ oSl s0 c) (hr : 0 ≤ r ∧ r < 4000) (hv : cV (cLv false s0) (oRk s0 c r) (oRv s0 c r)) (es : osE s0 c r a z) (zr : 0 ≤ z → (cPl s0 z).toInt < r.toInt)
    (tI : ∀ f j, f ≠ 18565 ∧ f ≠ 18954 → gI t f j = if f = 18566 ∧ j = x then r else if f = 18564 ∧ j = x then c else gI s1 f j) (t2 : t.2 = s1.2) (tx : ∀ y, cNx t y = if 0 ≤ a ∧ y = a then x else if y = x then z else cNx s1 y) (tn : ∀ c', oNo t c' = if ¬ 0 ≤ a ∧ c' = c then x else oNo s1 c') :
    cRo t m e ∧ cHR t ∧ cNo x s0 t ∧ cOp t c x ∧ cPl t x = r := by
  have H := h0.1
  have lt := md.nw.lt H.1
  have eL : ∀ f j, gL t f j = gL s1 f j := fun f j => by
    show t.2.1 f j = _
    rw [t2]
    rfl
  have eA : ∀ a j k, gA t a j k = gA s1 a j k := fun f j k => by
    show t.2.2.1 f j k = _
    rw [t2]
    rfl
  have eB : ∀ a j k, gB t a j k = gB s1 a j k := fun f j k => by
    show t.2.2.2 f j k = _
    rw [t2]
    rfl
  have eI : ∀ f j, f ≠ 18565 ∧ f ≠ 18954 ∧ f ≠ 18566 ∧ f ≠ 18564 → gI t f j = gI s1 f j := fun f j q => by
    rw [tI f j ⟨q.1, q.2.1⟩, if_neg (fun w => q.2.2.1 w.1), if_neg (fun w => q.2.2.2 w.1)]
  have eJ : ∀ f j, f ≠ 18565 ∧ f ≠ 18954 → (f / 128 = 145 → j ≠ x) → gI t f j = gI s1 f j := fun f j q w => by
    rw [tI f j q, if_neg (fun v => w (by rw [v.1]) v.2), if_neg (fun v => w (by rw [v.1]) v.2)]
  have eK : ∀ f j, f ≠ 14209 ∧ f ≠ 14211 ∧ f ≠ 18565 ∧ f ≠ 18954 → (f / 128 = 145 → j ≠ x) → gI t f j = gI s0 f j := fun f j q w => by
    rw [eJ f j ⟨q.2.2.1, q.2.2.2⟩ w]
    refine md.I f j ⟨q.1, q.2.1⟩ ?_
    by_cases v : f / 128 = 145
    · exact .inr (w v)
    · exact .inl v
  have lk : cLk t x = c := by
    unfold cLk
    rw [tI _ _ (by decide), if_neg (fun w => absurd w.1 (by decide)), if_pos ⟨rfl, rfl⟩]
  have pl : cPl t x = r := by
    unfold cPl
    rw [tI _ _ (by decide), if_pos ⟨rfl, rfl⟩]
  have ex : cTy t x = 8 := (eI _ _ (by decide)).trans md.ty
  have enN : cN t = cN s1 := eI _ _ (by decide)
  have enF : cFc t = cFc s1 := eI _ _ (by decide)
  have tl : ∀ j, cTl t j = cTl s1 j := fun j => eA _ _ _
  have nw : cNw x s0 t := by
    refine ⟨by rw [enN]; exact md.nw.1, ⟨md.nw.2.1.1, (eI _ _ (by decide)).trans md.nw.2.1.2⟩, by rw [enN]; exact md.nw.2.2⟩
  have et : ∀ y, y ≠ x → cTy t y = cTy s0 y := fun y q => eK _ _ (by decide) (fun _ => q)
  have lv := fun {y u} (u0 : u ≠ 0) => nw.lv H.1 (by decide) ex et (y := y) (u := u) u0
  have ad : cAd x (-1) s0 t := by
    refine ⟨fun f j q w => ?_, fun f j q w => ?_, fun f i j q _ _ _ _ _ => ?_, ?_, fun j w => ?_, fun j w => ?_, fun i j _ _ _ _ _ => ?_, fun a k q => ?_, fun j k q => ?_, fun j k _ => ?_, fun a k q => ?_, fun j k _ => ?_⟩
    · refine eK f j ⟨fun v => ?_, fun v => ?_, q.2.2, fun v => ?_⟩ (fun v => ?_)
      · subst v
        exact absurd q.1 (by decide)
      · subst v
        exact absurd q.1 (by decide)
      · subst v
        exact absurd q.2.1 (by decide)
      · rcases w with w | w
        · exact w
        · omega
    · refine eK f j ?_ (fun v => ?_)
      · rcases q with rfl | rfl | rfl | rfl <;> decide
      · rcases q with rfl | rfl | rfl | rfl <;> exact absurd v (by decide)
    · refine eK f _ ?_ (fun v => ?_)
      · rcases q with rfl | rfl <;> decide
      · rcases q with rfl | rfl <;> exact absurd v (by decide)
    · exact eK _ _ (by decide) (fun v => absurd v (by decide))
    · rw [eL]
      exact md.L _ _ (.inr w)
    · rw [eL]
      exact md.L _ _ (.inl (by decide))
    · rw [eL]
      exact md.L _ _ (.inl (by decide))
    · rw [eA]
      refine md.A _ _ _ ?_
      rcases q with rfl | rfl | rfl | rfl | rfl <;> decide
    · rw [eA]
      exact md.A _ _ _ (by decide)
    · rw [eA]
      exact md.A _ _ _ (by decide)
    · rw [eB]
      exact md.B _ _ _
    · rw [eB]
      exact md.B _ _ _
  have no : cNo x s0 t := by
    refine ⟨(lv (by decide)).2 (.inr ⟨rfl, rfl⟩), fun y u u0 l => ⟨(lv u0).2 (.inl ⟨l, nw.old l u0⟩), nw.old l u0⟩, eK, fun f j w => ?_, fun a j k q => (eA a j k).trans (md.A a j k q), fun a j k => (eB a j k).trans (md.B a j k), fun y u u0 q l => ((lv u0).1 l).elim (fun w => w.1) (fun w => absurd w.1 q)⟩
    rw [eL]
    by_cases v : f / 128 = 145
    · exact md.L f j (.inr (w v))
    · exact md.L f j (.inl v)
  have sn : ∀ y, y ≠ x → cNx s1 y = cNx s0 y := fun y q => md.I _ _ (by decide) (.inr q)
  have so : ∀ c', oNo s1 c' = oNo s0 c' := fun c' => md.I _ _ (by decide) (.inl (by decide))
  have ax : 0 ≤ a → cOp s0 c a ∧ r.toInt < (cPl s0 a).toInt ∧ cNx s0 a = z := fun w => by
    rcases es.1 with ⟨b1, -⟩ | ⟨-, b⟩
    · rw [b1] at w
      exact absurd w (by decide)
    · exact b
  have epl : ∀ y, y ≠ x → cPl t y = cPl s0 y := fun y q => eK _ _ (by decide) (fun _ => q)
  have r04 := r0
  have t4 := md.t4
  have mo : ∀ y, cOp s0 c y → y ≠ x := fun y q => nw.old q.1 (by decide)
  have ls := (H.2.2.2.2.1.1 c hc hl).2.2.1
  have hi : cHI t := by
    refine H.opv ad nw ex (by rw [tl, t4]; omega) ⟨(eI _ _ (by decide)).trans md.sy, ?_⟩ ((tl 6).trans md.t6) ((tl 11).trans md.t11) ?_ (fun i => ?_) (fun i a b => ?_) (fun i => ?_) hc hl lk (by rw [pl]; exact hr) (by rw [pl]; exact hv) (fun y q w => ?_) (fun c' _ q => ?_) ?_
    · rw [show cNu t x = cTl s0 4 from (eI _ _ (by decide)).trans md.nu, tl, t4]
      omega
    · rw [enF, enN, tl]
      exact md.fc
    · exact (eA _ _ _).trans (md.A _ _ _ (by decide))
    · rw [enF] at b
      exact md.fi i a b
    · exact (eA _ _ _).trans (md.A _ _ _ (by decide))
    · rw [tx, if_neg, if_neg q]
      · exact sn y q
      · rintro ⟨a0, rfl⟩
        have b := (ax a0).1
        rcases w with w | ⟨c', n1, w⟩
        · exact absurd (b.1.2.1.symm.trans w.2.1) (by decide)
        · exact n1 (w.2.symm.trans b.2)
    · rw [tn, if_neg (fun w => q w.2)]
      exact so c'
    · by_cases a0 : 0 ≤ a
      · obtain ⟨a1, a2, a3⟩ := ax a0
        have l1 : Ls (cOp s0 c) (fun y => (cPl t y).toInt) (fun y => if y = x then z else cNx s0 y) (oNo s0 c) := ls.congr (fun _ => Iff.rfl) (fun y q => by rw [epl y (mo y q)]) (fun y q => by rw [if_neg (mo y q)]) rfl
        have l2 := l1.ins (b := a) (z := x) a1 (fun q => mo x q rfl) lt.1 (by rw [if_pos rfl, if_neg (mo a a1), a3]) (by rw [pl, epl a (mo a a1)]; exact a2) (fun w => by
          rw [if_neg (mo a a1), a3] at w ⊢
          rcases es.2 with b | ⟨b1, b2⟩
          · exact absurd w (by clear H h0 md r1 es tI tx tn lv ad no l1 ls; grind)
          · rw [pl, epl z (mo z b1)]
            exact zr w)
        refine l2.congr (fun _ => Iff.rfl) (fun _ _ => rfl) (fun y q => ?_) (by rw [tn, if_neg (fun w => w.1 a0)]; exact so c)
        rw [tx]
        by_cases v : y = a
        · rw [if_pos ⟨a0, v⟩, if_pos v]
        · rw [if_neg (fun w => v w.2), if_neg v]
          by_cases u : y = x
          · rw [if_pos u, if_pos u]
          · rw [if_neg u, if_neg u]
            exact sn y u
      · have za : z = oNo s0 c := by
          rcases es.1 with ⟨-, b2⟩ | ⟨b1, -⟩
          · exact b2
          · exact absurd b1 a0
        have l1 : Ls (cOp s0 c) (fun y => (cPl t y).toInt) (cNx t) (oNo s0 c) := ls.congr (fun _ => Iff.rfl) (fun y q => by rw [epl y (mo y q)]) (fun y q => by
          rw [tx, if_neg (fun w => a0 w.1), if_neg (mo y q)]
          exact sn y (mo y q)) rfl
        have l2 := l1.cons (z := x) lt.1 (by rw [tx, if_neg (fun w => a0 w.1), if_pos rfl]; exact za) (fun y q => by
          have w := ls.2.1 y q
          have w2 := w.2
          dsimp only at w2
          rw [← za] at w w2
          have := zr w.1
          rw [pl, epl y (mo y q)]
          omega)
        refine l2.congr (fun _ => Iff.rfl) (fun _ _ => rfl) (fun _ _ => rfl) (by rw [tn, if_pos ⟨a0, rfl⟩])
  refine ⟨cRo.fi (x := x) r1 (fun f j q => ?_) (fun j _ => tl j), ⟨hi, fun l => no.rt (h0.2 ?_)⟩, no, ⟨no.1, lk⟩, pl⟩
  · refine eI f j ?_
    rcases q with rfl | rfl | rfl | rfl | rfl | rfl | rfl | rfl | rfl <;> decide
  · rw [← no.2.2.1 14221 0 (by decide) (fun v => absurd v (by decide))]
    exact l
