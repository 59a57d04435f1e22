/-! The class: what the machine itself keeps over makers. -/
def ofC (s : S1) (j : Int32) : Prop := ∃ i, 0 ≤ i ∧ i < 200 ∧ j = mCur s * 200 + i
def cKm (s t : S1) : Prop :=
  (∀ f j, (128 ≤ f / 128 ∧ f / 128 ≤ 144) ∨ (f / 128 = 152 ∧ ofC s j) ∨ (f / 128 = 148 ∧ f ≠ 18954 ∧ j = mCur s) ∨ f = 12937 ∨ f = 12938 → gI t f j = gI s f j) ∧
  (∀ f j, f / 128 = 128 ∨ (f / 128 = 152 ∧ ofC s j) ∨ (f = 18953 ∧ j = mCur s) → gL t f j = gL s f j) ∧
  (∀ a j k, a = 103 ∨ a = 104 ∨ a = 105 ∨ a = 107 ∨ a = 115 ∨ (128 ≤ a ∧ a ≤ 143) ∨ (a = 149 ∧ j = mCur s) → gA t a j k = gA s a j k) ∧ ∀ a j k, a = 106 ∨ (128 ≤ a ∧ a ≤ 143) ∨ (a = 150 ∧ j = mCur s) → gB t a j k = gB s a j k
theorem cKm.cur {s t : S1} (h : cKm s t) : mCur t = mCur s := h.1 _ _ (.inl (by decide))
theorem cKm.eof {s t : S1} (h : cKm s t) {j : Int32} : ofC t j ↔ ofC s j := by
  unfold ofC
  rw [h.cur]
theorem cKm.refl (s : S1) : cKm s s := ⟨fun _ _ _ => rfl, fun _ _ _ => rfl, fun _ _ _ _ => rfl, fun _ _ _ _ => rfl⟩
theorem cKm.trans {s t u : S1} (a : cKm s t) (b : cKm t u) : cKm s u := by
  have ec := a.cur
  have eo := fun j => a.eof (j := j)
  obtain ⟨a1, a2, a3, a4⟩ := a
  obtain ⟨b1, b2, b3, b4⟩ := b
  rw [ec] at b1 b2 b3 b4
  simp only [eo] at b1 b2
  exact ⟨fun f j q => (b1 f j q).trans (a1 f j q), fun f j q => (b2 f j q).trans (a2 f j q), fun f j k q => (b3 f j k q).trans (a3 f j k q), fun f j k q => (b4 f j k q).trans (a4 f j k q)⟩
theorem cHx.km {s t : S1} (h : cHx s t) : cKm s t := ⟨fun f j q => h.1 f j (by omega), fun f j _ => h.2.1 f j, fun a j k q => h.2.2.1 a j k (by omega), fun a j k q => h.2.2.2.1 a j k (by omega)⟩
theorem cGc.km {s t : S1} (h : cGc s t) (R : cRt s) (Rt : cRt t) : cKm s t := by
  have ec : mCur t = mCur s := h.1 _ _ (by decide)
  have sl : oSl t (mCur s) = oSl s (mCur s) := by
    rcases h.2.2.2.2.2.2.2.1 (mCur s) with w | w
    · exact w
    · obtain ⟨m0, ρ, hl⟩ := Rt.2.1
      have := (hl.1 m0).2.1
      rw [ec, w] at this
      exact absurd this (by decide)
  refine ⟨fun f j q => ?_, fun f j q => h.2.1 f j (by omega), fun a j k q => h.2.2.1 a j k (by omega), fun a j k _ => h.2.2.2.1 a j k⟩
  by_cases z : f = 18950
  · subst z
    rcases q with q | q | q | q | q
    · exact absurd q (by decide)
    · exact absurd q.1 (by decide)
    · rw [q.2.2]
      exact sl
    · exact absurd q (by decide)
    · exact absurd q (by decide)
  · exact h.1 f j (by omega)
theorem cMg.km {s t : S1} (g : cMg s t) (R : cRt s) (Ht : cHR t) : cKm s t := by
  rcases g with rfl | g
  · exact cKm.refl _
  · exact g.2.km R (Ht.2 (g.2.ld.trans g.1))
theorem cNt.km {x T : Int32} {s t : S1} (h : cNt x T s t) : cKm s t := ⟨fun f j q => h.2.2.1 f j (by omega) (fun z => by omega), fun f j q => h.2.2.2.1 f j (fun z => by omega), fun a j k q => h.2.2.2.2.1 a j k (by omega) (fun z => by omega), fun a j k q => h.2.2.2.2.2.1 a j k (by omega) (fun z => by omega)⟩
theorem cNo.km {x : Int32} {s t : S1} (h : cNo x s t) : cKm s t := ⟨fun f j q => h.2.2.1 f j (by omega) (fun z => by omega), fun f j q => h.2.2.2.1 f j (fun z => by omega), fun a j k q => h.2.2.2.2.1 a j k (by omega), fun a j k _ => h.2.2.2.2.2.1 a j k⟩
theorem cNc.km {x c : Int32} {s t : S1} (h : cNc x c s t) (hc : 0 ≤ c ∧ c < 32) (ne : mCur s ≠ c) (hm : 0 ≤ mCur s ∧ mCur s < 32) : cKm s t := by
  have fr : ∀ j, ofC s j → ∀ i, 0 ≤ i → i < 200 → j ≠ c * 200 + i := fun j o i i0 i1 => by
    obtain ⟨k, k0, k1, rfl⟩ := o
    exact fm_ne hm hc ⟨k0, k1⟩ ⟨i0, i1⟩ ne
  refine ⟨fun f j q => ?_, fun f j q => ?_, fun a j k q => ?_, fun a j k q => ?_⟩
  · refine h.2.2.1 f j (by omega) (fun z => by omega) (fun z => ?_) (fun z => ?_)
    · rcases q with q | q | q | q | q
      · omega
      · omega
      · rw [q.2.2]
        exact ne
      · omega
      · omega
    · rcases q with q | q | q | q | q
      · omega
      · exact fr j q.2
      · omega
      · omega
      · omega
  · refine h.2.2.2.1 f j (by omega) (fun z => by omega) (fun z => ?_) (fun z => ?_)
    · rcases q with q | q | q
      · omega
      · omega
      · rw [q.2]
        exact ne
    · rcases q with q | q | q
      · omega
      · exact fr j q.2
      · omega
  · refine h.2.2.2.2.1 a j k (by omega) (fun z => ?_)
    rcases q with q | q | q | q | q | q | q
    · omega
    · omega
    · omega
    · omega
    · omega
    · omega
    · rw [q.2]
      exact ne
  · refine h.2.2.2.2.2.1 a j k (fun z => ?_)
    rcases q with q | q | q
    · omega
    · omega
    · rw [q.2]
      exact ne
theorem cW.dd {s : S1} {n : Nat × Nat} (W : cW s n) : ∀ c, cAv s c → (oD s c).toInt ≤ 200 := fun _ a => (W.hi.dep a).2.1.2
/-- behind a maker: the world, the frames, the machine as they were -/
def mkW (s : S1) (τ : Bool) (n : Nat × Nat) (t : S1) : Prop := cW t n ∧ qFr τ t ∧ cKm s t
theorem cW.mg {s t : S1} {n : Nat × Nat} {τ : Bool} (W : cW s n) (F : qFr τ s) (g : cMg s t) (Ht : cHR t) : mkW s τ n t := by
  have km := g.km W.rt Ht
  rcases g with rfl | ⟨l, g⟩
  · exact ⟨W, F, km⟩
  · have kp := g.kp Ht.1
    have Rt := Ht.2 (g.ld.trans l)
    refine ⟨⟨Ht.1, Rt, g.ld.trans l, W.sf.gc g, W.ro.gc g, kp.1.pg W.pg, fun x l6 => ?_⟩, kp.fr F W.dd, km⟩
    have l6' : cLv false s x 6 := by
      rw [cLv_f] at l6 ⊢
      rw [show cN t = cN s from g.1 _ _ (by decide)] at l6
      refine ⟨l6.1, ?_⟩
      rcases g.2.2.2.2.2.1 x with w | w
      · rw [← w]
        exact l6.2
      · rw [w] at l6
        exact absurd l6.2 (by decide)
    rw [show cLk t x = cLk s x from g.2.2.2.2.2.2.1 x (by rw [l6'.2.1]; decide)]
    unfold nPr
    rw [g.1 12937 0 (by decide)]
    exact W.kl x l6'
theorem cW.hx {s t : S1} {n : Nat × Nat} {τ : Bool} (W : cW s n) (F : qFr τ s) (h : cHx s t) (Ht : cHI t) (R : cRo t n (0, 0)) : mkW s τ n t := by
  refine ⟨⟨Ht, h.rt W.rt, (h.I 14221 (by decide) 0).trans W.ld, h.sf W.sf, R, h.kp.1.pg W.pg, fun x l6 => ?_⟩, h.kp.fr F W.dd, h.km⟩
  rw [show cLk t x = cLk s x from h.I _ (by decide) _]
  unfold nPr
  rw [h.I 12937 (by decide)]
  exact W.kl x (h.lv.1 l6)
theorem cW.nt {s t : S1} {n m : Nat × Nat} {τ : Bool} {x T : Int32} (W : cW s n) (F : qFr τ s) (h : cNt x T s t) (Ht : cHR t) (R : cRo t m (0, 0)) (op : T = 8 → cLk t x < 0) (kl : T = 6 → 0 ≤ (cLk t x).toInt ∧ (cLk t x).toInt < nPr s) : mkW s τ m t := by
  have ld : gI t 14221 0 = 0 := (h.2.2.1 14221 0 (by decide) (fun z => absurd z (by decide))).trans W.ld
  have kp := h.kp Ht.1 op
  refine ⟨⟨Ht.1, Ht.2 ld, ld, W.sf.congr (fun f j q => h.2.2.1 f j ?_ (fun z => ?_)), R, kp.1.pg W.pg, fun y l6 => ?_⟩, kp.fr F W.dd, h.km⟩
  · unfold sfI at q
    omega
  · unfold sfI at q
    omega
  · have en : nPr t = nPr s := by
      unfold nPr
      rw [h.2.2.1 12937 0 (by decide) (fun z => absurd z (by decide))]
    rw [en]
    by_cases q : y = x
    · rw [q] at l6 ⊢
      exact kl (h.1.2.1.symm.trans l6.2.1)
    · rw [show cLk t y = cLk s y from h.2.2.1 _ _ (by decide) (fun _ => q)]
      exact W.kl y (h.2.2.2.2.2.2 y 6 (by decide) q l6)
theorem cW.no {s t : S1} {n m : Nat × Nat} {τ : Bool} {x c : Int32} (W : cW s n) (F : qFr τ s) (h : cNo x s t) (Ht : cHR t) (R : cRo t m (0, 0)) (oc : cOp t c x) (ol : (cPl t x).toInt < (oU s c).toInt) : mkW s τ m t := by
  have ld : gI t 14221 0 = 0 := (h.2.2.1 14221 0 (by decide) (fun z => absurd z (by decide))).trans W.ld
  obtain ⟨pk, -, fr⟩ := h.kp W.hi oc ol (fun d a => (F d a).1.2.2.2.2.2) W.dd F
  refine ⟨⟨Ht.1, Ht.2 ld, ld, W.sf.congr (fun f j q => h.2.2.1 f j ?_ (fun z => ?_)), R, pk.pg W.pg, fun y l6 => ?_⟩, fr, h.km⟩
  · unfold sfI at q
    omega
  · unfold sfI at q
    omega
  · have en : nPr t = nPr s := by
      unfold nPr
      rw [h.2.2.1 12937 0 (by decide) (fun z => absurd z (by decide))]
    have q : y ≠ x := fun z => by
      rw [z] at l6
      have := l6.2.1
      rw [h.1.2.1] at this
      exact absurd this (by decide)
    rw [en, show cLk t y = cLk s y from h.2.2.1 _ _ (by decide) (fun _ => q)]
    exact W.kl y (h.2.2.2.2.2.2 y 6 (by decide) q l6)
theorem cW.nc {s t : S1} {n m : Nat × Nat} {τ : Bool} {x c : Int32} {v : Int64} (W : cW s n) (F : qFr τ s) (h : cNc x c s t) (i : cNi x c v s t) (Ht : cHR t) (S : cSf t) (R : cRo t m (0, 0)) : mkW s τ m t := by
  have ld : gI t 14221 0 = 0 := (h.2.2.1 14221 0 (by decide) (fun z => absurd z (by decide)) (fun z => absurd z (by decide)) (fun z => absurd z (by decide))).trans W.ld
  have kp := h.kp i Ht.1
  have ac := W.cur
  have ne : mCur s ≠ c := fun z => by
    have w := i.2.1 (z ▸ ac.1)
    have := ac.2
    rw [z] at this
    exact absurd w (by rw [i32_lt]; rw [i32_le] at this; omega)
  refine ⟨⟨Ht.1, Ht.2 ld, ld, S, R, kp.1.pg W.pg, fun y l6 => ?_⟩, kp.fr F W.dd, h.km i.1 ne ac.1.1⟩
  have en : nPr t = nPr s := by
    unfold nPr
    rw [h.2.2.1 12937 0 (by decide) (fun z => absurd z (by decide)) (fun z => absurd z (by decide)) (fun z => absurd z (by decide))]
  have q : y ≠ x := fun z => by
    rw [z] at l6
    have := l6.2.1
    rw [h.1.2.1] at this
    exact absurd this (by decide)
  rw [en, show cLk t y = cLk s y from h.2.2.1 _ _ (by decide) (fun _ => q) (fun z => absurd z (by decide)) (fun z => absurd z (by decide))]
  exact W.kl y (h.2.2.2.2.2.2 y 6 (by decide) q l6)
theorem mkW.trans {s t u : S1} {τ : Bool} {n m : Nat × Nat} (a : mkW s τ n t) (b : mkW t τ m u) : mkW s τ m u := ⟨b.1, b.2.1, a.2.2.trans b.2.2⟩
theorem mdQ.w {s t : S1} {n : Nat × Nat} {τ : Bool} {T : Int32} {Fn : Int32 → S1 → Prop} {r : Int32 × (Nat × Nat)} (W : cW s n) (F : qFr τ s) (T6 : T ≠ 6) (op : ∀ x u, Fn x u → T = 8 → cLk u x < 0) (h : mdQ s (0, 0) T Fn r t) : mkW s τ r.2 t ∧ ((r.1 = -10 ∨ r.1 = -11) ∨ (0 ≤ r.1 ∧ cLv false t r.1 T ∧ Fn r.1 t)) := by
  obtain ⟨s0, g, h0, R, w | w⟩ := h
  · have m := W.mg F g h0
    rw [w.2]
    rw [w.2] at R
    exact ⟨⟨⟨m.1.1, m.1.2.1, m.1.2.2.1, m.1.2.2.2.1, R, m.1.2.2.2.2.2⟩, m.2⟩, .inl w.1⟩
  · have m := W.mg F g h0
    exact ⟨m.trans (m.1.nt m.2.1 w.2.2.1 w.2.1 R (op _ _ w.2.2.2) (fun z => absurd z T6)), .inr ⟨w.1, w.2.2.1.1, w.2.2.2⟩⟩
theorem cMh.w {s s0 : S1} {n : Nat × Nat} {τ : Bool} (W : cW s n) (F : qFr τ s) {z : Int32} (g : cMh z s s0) (h0 : cHR s0) : (cHI s0 ∧ cRt s0 ∧ gI s0 14221 0 = 0) ∧ qFr τ s0 ∧ cKm s s0 := by
  obtain ⟨s1, hd, g⟩ := g
  have hx := hd.1.hx
  have l1 : gI s1 14221 0 = 0 := (hx.I 14221 (by decide) 0).trans W.ld
  have F1 := hx.kp.fr F W.dd
  rcases g with rfl | ⟨-, g⟩
  · exact ⟨⟨h0.1, h0.2 l1, l1⟩, F1, hx.km⟩
  · have l0 := g.ld.trans l1
    have R0 := h0.2 l0
    refine ⟨⟨h0.1, R0, l0⟩, (g.kp h0.1).fr F1 (fun c a => ?_), hx.km.trans (g.km (hx.rt W.rt) R0)⟩
    have as : cAv s c := ⟨⟨a.1.1, (hx.I 19071 (by decide) c).symm.trans a.1.2⟩, by rw [← show oSl s1 c = oSl s c from hx.I _ (by decide) _]; exact a.2⟩
    rw [show oD s1 c = oD s c from hx.I _ (by decide) _]
    exact W.dd c as
theorem wrQ.w {s t : S1} {n : Nat × Nat} {τ : Bool} {r : Int32} (W : cW s n) (F : qFr τ s) (h : wrQ s n (0, 0) r t) : mkW s τ n t ∧ (r = 0 ∨ r = 6 ∨ r = 10 ∨ r = 11) := by
  obtain ⟨⟨z, s0, ⟨s1, hd, g⟩, h0, k⟩, Ht, R, q⟩ := h
  obtain ⟨⟨b1, b2, b3⟩, b4, b5⟩ := cMh.w W F ⟨s1, hd, g⟩ h0
  have hx := hd.1.hx
  refine ⟨⟨⟨Ht.1, k.rt b2, (k.I 14221 (by decide) 0).trans b3, k.sf ((hx.sf W.sf).mg g), R, ?_, fun x l6 => ?_⟩, k.kp.fr b4 (fun c a => (b1.dep a).2.1.2), b5.trans k.km⟩, q⟩
  · refine k.kp.1.pg ?_
    rcases g with rfl | ⟨-, g⟩
    · exact hx.kp.1.pg W.pg
    · exact (g.kp h0.1).1.pg (hx.kp.1.pg W.pg)
  · rw [show cLk t x = cLk s0 x from k.I _ (by decide) _, show nPr t = nPr s from by unfold nPr; rw [(b5.trans k.km).1 12937 0 (.inr (.inr (.inr (.inl rfl))))]]
    have l0 := k.lv.1 l6
    rcases g with rfl | ⟨-, g⟩
    · rw [show cLk s0 x = cLk s x from hx.I _ (by decide) _]
      exact W.kl x (hx.lv.1 l0)
    · have l1 : cLv false s1 x 6 := by
        rw [cLv_f] at l0 ⊢
        rw [show cN s0 = cN s1 from g.1 _ _ (by decide)] at l0
        refine ⟨l0.1, ?_⟩
        rcases g.2.2.2.2.2.1 x with w | w
        · rw [← w]
          exact l0.2
        · rw [w] at l0
          exact absurd l0.2 (by decide)
      rw [show cLk s0 x = cLk s1 x from g.2.2.2.2.2.2.1 x (by rw [l1.2.1]; decide), show cLk s1 x = cLk s x from hx.I _ (by decide) _]
      exact W.kl x (hx.lv.1 l1)
