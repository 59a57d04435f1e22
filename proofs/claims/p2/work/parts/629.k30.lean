/-! The class: an entry more; the dead entries go. -/
def cAp (x k : Int32) (v : Int64) (k' : Int32) (v' : Int64) (s t : S1) : Prop := cTw x s t ∧ cE t x = cE s x + 1 ∧ (∀ j, gI t 18575 j = gI s 18575 j) ∧ ∀ p, (p ≠ cS0 s x + cE s x → cKk t p = cKk s p ∧ cKv t p = cKv s p ∧ cVk t p = cVk s p ∧ cVv t p = cVv s p) ∧ (p = cS0 s x + cE s x → cKk t p = k ∧ cKv t p = v ∧ cVk t p = k' ∧ cVv t p = v')
theorem ap_fin {s T : S1} {x k k' h : Int32} {v v' : Int64} (H : cHI s) (hx : cLv false s x 5) (hr : (cE s x).toInt < (cR s x).toInt) (hk : cV (cLv false s) k v) (hv : cV (cLv false s) k' v') (h0 : 0 ≤ h.toInt) (h1 : h.toInt < (cR s x).toInt)
    (TI : ∀ f j, gI T f j = if f = 18573 ∧ j = x then cE s x + 1 else gI s f j) (TL : ∀ f j, gL T f j = gL s f j)
    (TA : ∀ a j i, gA T a j i = if a = 125 ∧ j = 0 ∧ i = cS0 s x + h then cE s x else if a = 126 ∧ j = 0 ∧ i = cS0 s x + cE s x then gA s 125 0 (cS0 s x + h) else if a = 123 ∧ j = 0 ∧ i = cS0 s x + cE s x then k' else if a = 121 ∧ j = 0 ∧ i = cS0 s x + cE s x then k else gA s a j i)
    (TB : ∀ a j i, gB T a j i = if a = 124 ∧ j = 0 ∧ i = cS0 s x + cE s x then v' else if a = 122 ∧ j = 0 ∧ i = cS0 s x + cE s x then v else gB s a j i) : cHI T ∧ cAp x k v k' v' s T := by
  obtain ⟨⟨a1, a2, a3, a4, a5⟩, e1, e2⟩ := H.tI hx
  have e0 : (0 : Int32).toInt = 0 := rfl
  have e1' : (1 : Int32).toInt = 1 := rfl
  have em : (-1 : Int32).toInt = -1 := rfl
  have ip := cIn.add H hx (i := cE s x) (by rw [i32_le]; omega) (by rw [i32_lt]; omega)
  have iq := cIn.add H hx (i := h) (by rw [i32_le]; omega) (by rw [i32_lt]; omega)
  have eE : (cE s x + 1).toInt = (cE s x).toInt + 1 := by rw [ktI_add] <;> omega
  have tw : cTw x s T := by
    refine ⟨fun f j p q => ?_, TL, fun a j i q => ?_, fun a j i q => ?_⟩
    · rw [TI, if_neg (fun z => q z.1 z.2)]
    · rw [TA, if_neg (fun z => q (by rw [z.1]; decide) ⟨z.2.1, by rw [z.2.2]; exact iq.1⟩), if_neg (fun z => q (by rw [z.1]; decide) ⟨z.2.1, by rw [z.2.2]; exact ip.1⟩), if_neg (fun z => q (by rw [z.1]; decide) ⟨z.2.1, by rw [z.2.2]; exact ip.1⟩), if_neg (fun z => q (by rw [z.1]; decide) ⟨z.2.1, by rw [z.2.2]; exact ip.1⟩)]
    · rw [TB, if_neg (fun z => q (by rw [z.1]; decide) ⟨z.2.1, by rw [z.2.2]; exact ip.1⟩), if_neg (fun z => q (by rw [z.1]; decide) ⟨z.2.1, by rw [z.2.2]; exact ip.1⟩)]
  have tE : cE T x = cE s x + 1 := by
    rw [show cE T x = gI T 18573 x from rfl, TI, if_pos ⟨rfl, rfl⟩]
  have ent : ∀ p, (p ≠ cS0 s x + cE s x → cKk T p = cKk s p ∧ cKv T p = cKv s p ∧ cVk T p = cVk s p ∧ cVv T p = cVv s p) ∧ (p = cS0 s x + cE s x → cKk T p = k ∧ cKv T p = v ∧ cVk T p = k' ∧ cVv T p = v') := fun p => by
    refine ⟨fun q => ?_, fun q => ?_⟩
    · refine ⟨?_, ?_, ?_, ?_⟩
      · exact (TA _ _ _).trans (by simp [q])
      · exact (TB _ _ _).trans (by simp [q])
      · exact (TA _ _ _).trans (by simp [q])
      · exact (TB _ _ _).trans (by simp [q])
    · refine ⟨?_, ?_, ?_, ?_⟩
      · exact (TA _ _ _).trans (by simp [q])
      · exact (TB _ _ _).trans (by simp [q])
      · exact (TA _ _ _).trans (by simp [q])
      · exact (TB _ _ _).trans (by simp [q])
  have hk' := tw.hx
  obtain ⟨b1, b2, b3⟩ := H.tbv hx
  obtain ⟨b4, b5, b6⟩ := b3 hx.2.1
  have hdq := b5 h (by rw [i32_le]; omega) (by rw [i32_lt]; omega)
  rw [i32_le, i32_lt, em] at hdq
  refine ⟨H.tw hx tw ⟨?_, fun i i0 i1 => ?_, fun _ => ⟨?_, fun i i0 i1 => ?_, fun i i0 i1 => ?_⟩⟩, tw, tE, fun j => ?_, ent⟩
  · rw [(tw.s0 x).2.2, hk'.lv']
    exact b1
  · rw [tE, i32_lt, eE] at i1
    rw [i32_le] at i0
    rw [(tw.s0 x).1, hk'.lv']
    have ii := cIn.add H hx (i := i) (by rw [i32_le]; omega) (by rw [i32_lt]; omega)
    by_cases q : i = cE s x
    · obtain ⟨c1, c2, c3, c4⟩ := (ent (cS0 s x + i)).2 (by rw [q])
      rw [c1, c2, c3, c4]
      exact ⟨hk, hv⟩
    · have ne : i.toInt ≠ (cE s x).toInt := fun z => q (toInt_inj z)
      obtain ⟨c1, c2, c3, c4⟩ := (ent (cS0 s x + i)).1 (fun z => by
        have := congrArg Int32.toInt z
        omega)
      rw [c1, c2, c3, c4]
      exact b2 i (by rw [i32_le]; omega) (by rw [i32_lt]; omega)
  · rw [(tw.s0 x).1, (tw.s0 x).2.1, tE, show cTop T = cTop s from tw.1 _ _ (by decide) (fun z => absurd z (by decide))]
    refine ⟨b4.1, b4.2.1, b4.2.2.1, ?_, ?_, b4.2.2.2.2.2⟩
    · rw [i32_le]
      omega
    · rw [i32_le]
      omega
  · rw [(tw.s0 x).2.1] at i1
    rw [(tw.s0 x).1, tE, i32_le, i32_lt, eE, em]
    have w := b5 i i0 i1
    rw [i32_le, i32_lt, em] at w
    have e : cHd T (cS0 s x + i) = if cS0 s x + i = cS0 s x + h then cE s x else cHd s (cS0 s x + i) := (TA _ _ _).trans (by simp)
    rw [e]
    by_cases q : cS0 s x + i = cS0 s x + h
    · rw [if_pos q]
      omega
    · rw [if_neg q]
      omega
  · rw [tE, i32_lt, eE] at i1
    rw [(tw.s0 x).1, tE, i32_le, i32_lt, eE, em]
    have e : cCh T (cS0 s x + i) = if cS0 s x + i = cS0 s x + cE s x then cHd s (cS0 s x + h) else cCh s (cS0 s x + i) := (TA _ _ _).trans (by simp)
    rw [e]
    by_cases q : i = cE s x
    · rw [if_pos (by rw [q])]
      omega
    · have ne : i.toInt ≠ (cE s x).toInt := fun z => q (toInt_inj z)
      have i0' := i0
      rw [i32_le] at i0'
      have ii := cIn.add H hx (i := i) i0 (by rw [i32_lt]; omega)
      rw [if_neg (fun z => by
        have := congrArg Int32.toInt z
        omega)]
      have w := b6 i i0 (by rw [i32_lt]; omega)
      rw [i32_le, i32_lt, em] at w
      omega
  · rw [TI, if_neg (fun z => absurd z.1 (by decide))]
theorem append_ok {s : S1} {x k k' : Int32} {v v' : Int64} (H : cHI s) (hx : cLv false s x 5) (hr : (cE s x).toInt < (cR s x).toInt) (hk : cV (cLv false s) k v) (hv : cV (cLv false s) k' v') :
    ok (M_Ta_append x k v k' v') s (fun _ t => cHI t ∧ cAp x k v k' v' s t) := by
  obtain ⟨⟨a1, a2, a3, a4, a5⟩, e1, e2⟩ := H.tI hx
  have e0 : (0 : Int32).toInt = 0 := rfl
  have e5 : (50000 : Int32).toInt = 50000 := rfl
  simp only [M_Ta_append, ok_B, ok_C, ok_R, ok_L, ok_K, ok_GI, ok_GL, ok_PI, ok_PL, ok_AI, ok_AL, ok_SI, ok_SL, ok_CI, cmp_lt, cmp_le, cmp_gt, cmp_ge, cmp_eq, nar0, nar1, Sum.elim_inl, Sum.elim_inr, ok_PzT, ok_PzC, ok_PzP, ok_PrC, ok_PrP, ok_PrF, ok_PrN, ok_Ln, ok_CL, ok_Nw, ok_S, ok_Ks, ok_Nz, n8 hk.kr, n8 hv.kr]
  refine ok_mono (spread_ok s k v (cR s x) (by omega)) ?_
  rintro h s ⟨rfl, h0, h1⟩
  have ip := cIn.add H hx (i := cE s x) (by rw [i32_le]; omega) (by rw [i32_lt]; omega)
  have iq := cIn.add H hx (i := h) (by rw [i32_le]; omega) (by rw [i32_lt]; omega)
  have hp : 0 ≤ cS0 s x + cE s x ∧ cS0 s x + cE s x < 50000 := by
    rw [i32_le, i32_lt]
    omega
  have hq : 0 ≤ cS0 s x + h ∧ cS0 s x + h < 50000 := by
    rw [i32_le, i32_lt]
    omega
  refine ⟨hp, hp, hp, hp, hq, hp, hq, ?_⟩
  refine ap_fin H hx hr hk hv h0 h1 (fun f j => ?_) (fun _ _ => rfl) (fun a j i => ?_) (fun a j i => ?_)
  · simp only [gI_sI, gI_sL, gI_sA, gI_sB, gI_sAf, gI_sBf, gL_sI, gL_sL, gL_sA, gL_sB, gL_sAf, gL_sBf, gA_sI, gA_sL, gA_sA, gA_sB, gA_sAf, gA_sBf, gB_sI, gB_sL, gB_sA, gB_sB, gB_sAf, gB_sBf, Nat.reduceEqDiff, Nat.reduceMul, Nat.reduceAdd, false_and, true_and, and_true, and_false, if_true, if_false]
  · simp only [gI_sI, gI_sL, gI_sA, gI_sB, gI_sAf, gI_sBf, gL_sI, gL_sL, gL_sA, gL_sB, gL_sAf, gL_sBf, gA_sI, gA_sL, gA_sA, gA_sB, gA_sAf, gA_sBf, gB_sI, gB_sL, gB_sA, gB_sB, gB_sAf, gB_sBf, Nat.reduceEqDiff, Nat.reduceMul, Nat.reduceAdd, false_and, true_and, and_true, and_false, if_true, if_false]
  · simp only [gI_sI, gI_sL, gI_sA, gI_sB, gI_sAf, gI_sBf, gL_sI, gL_sL, gL_sA, gL_sB, gL_sAf, gL_sBf, gA_sI, gA_sL, gA_sA, gA_sB, gA_sAf, gA_sBf, gB_sI, gB_sL, gB_sA, gB_sB, gB_sAf, gB_sBf, Nat.reduceEqDiff, Nat.reduceMul, Nat.reduceAdd, false_and, true_and, and_true, and_false, if_true, if_false]
def cFd (s s' : S1) (r : Nat) (u a b v : Int32) : Prop := (∀ f i, gI s' f i = gI s f i) ∧ (∀ f i, gL s' f i = gL s f i) ∧ (∀ f i j, gB s' f i j = gB s f i j) ∧ ∀ r' u' j, gA s' r' u' j = if r' = r ∧ u' = u ∧ a.toInt ≤ j.toInt ∧ j.toInt < b.toInt then v else gA s r' u' j
theorem cfill_ok (s : S1) (r : Nat) (u a b v : Int32) (hr : (dyF r = true → gI s (128 * r + 127) u = 1) ∧ 0 ≤ u ∧ u.toNatClampNeg < cnF r) (h : 0 ≤ a.toInt ∧ a.toInt ≤ b.toInt ∧ b.toInt ≤ (lnI r).toInt) (hl : (lnI r).toInt ≤ 500000) :
    ok (M_Arr_fill_____ r u a b v) s (fun _ s' => cFd s s' r u a b v) := by
  have e0 : (0 : Int32).toInt = 0 := rfl
  have e1 : (1 : Int32).toInt = 1 := rfl
  simp only [M_Arr_fill_____, M_Arr_rangeCheck, ok_B, ok_C, ok_R, ok_L, ok_K, ok_GI, ok_GL, ok_PI, ok_PL, ok_AI, ok_AL, ok_SI, ok_SL, ok_Pr, ok_CI, cmp_lt, cmp_le, cmp_gt, cmp_ge, cmp_eq, nar0, nar1, Sum.elim_inl, Sum.elim_inr, kok_F]
  refine ⟨fun _ => ⟨fun _ => ⟨fun _ => ⟨hr, ?_⟩, fun c => c (by rw [i32_le]; omega)⟩, fun c => c (by rw [i32_le]; omega)⟩, fun c => c (by rw [i32_le]; omega)⟩
  refine ok_W (fun y s' => (y.1 = r ∧ y.2.1 = u ∧ y.2.2.1 = b ∧ y.2.2.2.1 = v) ∧ (a.toInt ≤ y.2.2.2.2.toInt ∧ y.2.2.2.2.toInt ≤ b.toInt) ∧ cFd s s' r u a y.2.2.2.2 v) (fun y _ => (b.toInt - y.2.2.2.2.toInt).toNat) ?_ (r, u, b, v, a) _ ⟨⟨rfl, rfl, rfl, rfl⟩, ⟨by dsimp only; omega, by dsimp only; omega⟩, fun _ _ => rfl, fun _ _ => rfl, fun _ _ _ => rfl, fun r' u' j => by rw [if_neg]; rintro ⟨-, -, p, q⟩; dsimp only at q; omega⟩
  rintro ⟨r', u', b', v', i⟩ s1 ⟨⟨rfl, rfl, rfl, rfl⟩, ⟨h1, h2⟩, hf⟩
  dsimp only at h1 h2 hf h hl hr
  simp only [M_Arr_fill______L10, ok_B, ok_C, ok_R, ok_L, ok_K, ok_GI, ok_GL, ok_PI, ok_PL, ok_AI, ok_AL, ok_SI, ok_SL, ok_Pr, ok_CI, cmp_lt, cmp_le, cmp_gt, cmp_ge, cmp_eq, nar0, nar1, Sum.elim_inl, Sum.elim_inr]
  obtain ⟨f1, f2, f3, f4⟩ := hf
  refine ⟨fun c => ?_, fun c => ?_⟩
  · rw [i32_le] at c
    have : i = b' := toInt_inj (by omega)
    rw [← this]
    exact ⟨f1, f2, f3, f4⟩
  · rw [i32_le] at c
    have ei : (i + 1).toInt = i.toInt + 1 := by rw [ktI_add] <;> omega
    refine ⟨⟨by rw [i32_le]; omega, by rw [i32_lt]; omega⟩, ⟨⟨by trivial, by trivial, by trivial, by trivial⟩, ⟨by omega, by omega⟩, f1, f2, f3, fun r2 u2 j => ?_⟩, by omega⟩
    rw [gA_sA, f4, ei]
    by_cases q : r2 = r' ∧ u2 = u' ∧ j = i
    · obtain ⟨rfl, rfl, rfl⟩ := q
      rw [if_pos ⟨rfl, rfl, rfl⟩, if_pos ⟨rfl, rfl, by omega, by omega⟩]
    · rw [if_neg q]
      by_cases w : r2 = r' ∧ u2 = u' ∧ a.toInt ≤ j.toInt ∧ j.toInt < i.toInt
      · rw [if_pos w, if_pos ⟨w.1, w.2.1, w.2.2.1, by omega⟩]
      · rw [if_neg w, if_neg (fun z => w ⟨z.1, z.2.1, z.2.2.1, by
          have : j.toInt ≠ i.toInt := fun t => q ⟨z.1, z.2.1, toInt_inj t⟩
          omega⟩)]
theorem pr125 (s : S1) : (dyF 125 = true → gI s (128 * 125 + 127) 0 = 1) ∧ (0 : Int32) ≤ 0 ∧ (0 : Int32).toNatClampNeg < cnF 125 := ⟨fun z => absurd z (by decide), by decide, by decide⟩
/-- a table has an entry with this value -/
def hsE (s : S1) (y k : Int32) (v : Int64) : Prop := ∃ i, 0 ≤ i ∧ i < cE s y ∧ cVk s (cS0 s y + i) = k ∧ cVv s (cS0 s y + i) = v
def ddQ (x : Int32) (s t : S1) : Prop := cHI t ∧ cTw x s t ∧ (∀ j, gI t 18575 j = gI s 18575 j) ∧ ∀ k v, k ≠ 0 → hsE s x k v → hsE t x k v
theorem dropDead_ok {s : S1} {x : Int32} (H : cHI s) (hx : cLv false s x 5) : ok (M_Ta_dropDead x) s (fun _ t => ddQ x s t) := by
  obtain ⟨⟨a1, a2, a3, a4, a5⟩, e1, e2⟩ := H.tI hx
  have e0 : (0 : Int32).toInt = 0 := rfl
  have e1' : (1 : Int32).toInt = 1 := rfl
  have e5 : (50000 : Int32).toInt = 50000 := rfl
  have em : (-1 : Int32).toInt = -1 := rfl
  have eb : (cS0 s x + cR s x).toInt = (cS0 s x).toInt + (cR s x).toInt := by rw [ktI_add] <;> omega
  have l5 : (lnI 125).toInt = 50000 := rfl
  simp only [M_Ta_dropDead, ok_B, ok_C, ok_R, ok_L, ok_K, ok_GI, ok_GL, ok_PI, ok_PL, ok_AI, ok_AL, ok_SI, ok_SL, ok_CI, cmp_lt, cmp_le, cmp_gt, cmp_ge, cmp_eq, nar0, nar1, Sum.elim_inl, Sum.elim_inr, ok_PzT, ok_PzC, ok_PzP, ok_PrC, ok_PrP, ok_PrF, ok_PrN, ok_Ln, ok_CL, ok_Nw, ok_S, ok_Ks, ok_Nz]
  refine ok_mono (cfill_ok s 125 0 (cS0 s x) (cS0 s x + cR s x) (-1) (pr125 s) ⟨a1, by omega, by omega⟩ (by omega)) ?_
  rintro - s1 ⟨f1, f2, f3, f4⟩
  have tw : cTw x s (sI s1 18573 x 0) := by
    refine ⟨fun f j p q => ?_, fun f j => f2 f j, fun a j i q => ?_, fun a j i _ => f3 a j i⟩
    · rw [gI_sI, if_neg (fun z => q z.1 z.2)]
      exact f1 f j
    · rw [gA_sI, f4, if_neg (fun z => q (by rw [z.1]; decide) ⟨z.2.1, by unfold cIn; omega⟩)]
  have tE : cE (sI s1 18573 x 0) x = 0 := by simp only [cE, gI_sI, gI_sL, gI_sA, gI_sB, gI_sAf, gI_sBf, gL_sI, gL_sL, gL_sA, gL_sB, gL_sAf, gL_sBf, gA_sI, gA_sL, gA_sA, gA_sB, gA_sAf, gA_sBf, gB_sI, gB_sL, gB_sA, gB_sB, gB_sAf, gB_sBf, Nat.reduceEqDiff, Nat.reduceMul, Nat.reduceAdd, false_and, true_and, and_true, and_false, if_true, if_false]
  have t75 : ∀ j, gI (sI s1 18573 x 0) 18575 j = gI s 18575 j := fun j => by
    simp only [gI_sI, gI_sL, gI_sA, gI_sB, gI_sAf, gI_sBf, gL_sI, gL_sL, gL_sA, gL_sB, gL_sAf, gL_sBf, gA_sI, gA_sL, gA_sA, gA_sB, gA_sAf, gA_sBf, gB_sI, gB_sL, gB_sA, gB_sB, gB_sAf, gB_sBf, Nat.reduceEqDiff, Nat.reduceMul, Nat.reduceAdd, false_and, true_and, and_true, and_false, if_true, if_false]
    exact f1 _ _
  have tH : ∀ i, 0 ≤ i → i < cR s x → cHd (sI s1 18573 x 0) (cS0 s x + i) = -1 := fun i i0 i1 => by
    have ii := cIn.add H hx i0 i1
    have w := ii.1
    unfold cIn at w
    exact (f4 _ _ _).trans (if_pos ⟨rfl, rfl, by omega, by omega⟩)
  have ent : ∀ p, cKk (sI s1 18573 x 0) p = cKk s p ∧ cKv (sI s1 18573 x 0) p = cKv s p ∧ cVk (sI s1 18573 x 0) p = cVk s p ∧ cVv (sI s1 18573 x 0) p = cVv s p := fun p => ⟨(f4 _ _ _).trans (if_neg (fun z => absurd z.1 (by decide))), f3 _ _ _, (f4 _ _ _).trans (if_neg (fun z => absurd z.1 (by decide))), f3 _ _ _⟩
  generalize sI s1 18573 x 0 = s2 at tw tE t75 tH ent
  obtain ⟨b1, b2, b3⟩ := H.tbv hx
  obtain ⟨b4, b5, b6⟩ := b3 hx.2.1
  have H2 : cHI s2 := by
    refine H.tw hx tw ⟨?_, fun i i0 i1 => ?_, fun _ => ⟨?_, fun i i0 i1 => ?_, fun i i0 i1 => ?_⟩⟩
    · rw [(tw.s0 x).2.2, tw.hx.lv']
      exact b1
    · rw [tE, i32_lt] at i1
      rw [i32_le] at i0
      omega
    · rw [(tw.s0 x).1, (tw.s0 x).2.1, tE, show cTop s2 = cTop s from tw.1 _ _ (by decide) (fun z => absurd z (by decide))]
      exact ⟨b4.1, b4.2.1, b4.2.2.1, by decide, b4.2.1.1, b4.2.2.2.2.2⟩
    · rw [(tw.s0 x).2.1] at i1
      rw [(tw.s0 x).1, tE, tH i i0 i1]
      exact ⟨by decide, by decide⟩
    · rw [tE, i32_lt] at i1
      rw [i32_le] at i0
      omega
  refine ok_W (fun y t => (y.1 = x ∧ y.2.1 = cE s x) ∧ (0 ≤ y.2.2.toInt ∧ y.2.2.toInt ≤ (cE s x).toInt) ∧ cHI t ∧ cTw x s t ∧ (∀ j, gI t 18575 j = gI s 18575 j) ∧ (cE t x).toInt ≤ y.2.2.toInt ∧ (∀ p, (cS0 s x).toInt + y.2.2.toInt ≤ p.toInt → cKk t p = cKk s p ∧ cKv t p = cKv s p ∧ cVk t p = cVk s p ∧ cVv t p = cVv s p) ∧ ∀ j : Int32, 0 ≤ j.toInt → j.toInt < y.2.2.toInt → cVk s (cS0 s x + j) ≠ 0 → hsE t x (cVk s (cS0 s x + j)) (cVv s (cS0 s x + j))) (fun y _ => ((cE s x).toInt - y.2.2.toInt).toNat) ?_ (x, cE s x, 0) _ ⟨⟨rfl, rfl⟩, ⟨Int.le_refl _, e1⟩, H2, tw, t75, by rw [tE]; exact Int.le_refl _, fun p _ => ent p, fun j a b => by dsimp only at b; omega⟩
  rintro ⟨x', cnt, i⟩ t ⟨⟨ex, ec⟩, ⟨i0, i1⟩, Ht, twt, q75, hE, hent, hlv⟩
  dsimp only at i0 i1 hE hent ex ec hlv
  subst ex ec
  simp only [M_Ta_dropDead_L36, M_Ta_dropDead_j94, ok_B, ok_C, ok_R, ok_L, ok_K, ok_GI, ok_GL, ok_PI, ok_PL, ok_AI, ok_AL, ok_SI, ok_SL, ok_CI, cmp_lt, cmp_le, cmp_gt, cmp_ge, cmp_eq, nar0, nar1, Sum.elim_inl, Sum.elim_inr, ok_PzT, ok_PzC, ok_PzP, ok_PrC, ok_PrP, ok_PrF, ok_PrN, ok_Ln, ok_CL, ok_Nw, ok_S, ok_Ks, ok_Nz]
  refine ⟨fun c => ⟨Ht, twt, q75, fun k v k0 hs => ?_⟩, fun c => ?_⟩
  · obtain ⟨j, j0, j1, rfl, rfl⟩ := hs
    rw [i32_le] at j0 c
    rw [i32_lt] at j1
    change (cE s x').toInt ≤ _ at c
    exact hlv j (by omega) (by omega) k0
  rw [i32_le] at c
  have c' : i.toInt < (cE s x').toInt := by
    have : cE s x' = gI s 18573 x' := rfl
    omega
  have ei : (i + 1).toInt = i.toInt + 1 := by rw [ktI_add] <;> omega
  have ii := cIn.add H hx (i := i) (by rw [i32_le]; omega) (by rw [i32_lt]; omega)
  have es : gI t 18571 x' = cS0 s x' := (twt.s0 x').1
  rw [es]
  have hp : 0 ≤ cS0 s x' + i ∧ cS0 s x' + i < 50000 := by
    rw [i32_le, i32_lt]
    omega
  have he := hent (cS0 s x' + i) (by omega)
  refine ⟨hp, fun z => ⟨⟨⟨by trivial, by trivial⟩, ⟨by omega, by omega⟩, Ht, twt, q75, by omega, fun p w => hent p (by omega), fun j a b d => ?_⟩, by omega⟩, fun _ => ⟨hp, hp, hp, hp, ?_⟩⟩
  · have jb : j.toInt ≠ i.toInt := fun e => by
      rw [toInt_inj e] at d
      exact d (he.2.2.1.symm.trans z)
    exact hlv j a (by omega) d
  have v := b2 i (by rw [i32_le]; omega) (by rw [i32_lt]; omega)
  have hxt : cLv false t x' 5 := twt.hx.lv.2 hx
  refine ok_mono (append_ok (k := gA t 121 0 (cS0 s x' + i)) (v := gB t 122 0 (cS0 s x' + i)) (k' := gA t 123 0 (cS0 s x' + i)) (v' := gB t 124 0 (cS0 s x' + i)) Ht hxt ?_ ?_ ?_) ?_
  · rw [(twt.s0 x').2.1]
    omega
  · rw [twt.hx.lv', show gA t 121 0 (cS0 s x' + i) = _ from he.1, show gB t 122 0 (cS0 s x' + i) = _ from he.2.1]
    exact v.1
  · rw [twt.hx.lv', show gA t 123 0 (cS0 s x' + i) = _ from he.2.2.1, show gB t 124 0 (cS0 s x' + i) = _ from he.2.2.2]
    exact v.2
  · rintro - u ⟨Hu, tu, uE, u75, uent⟩
    have wE := (Ht.tI hxt).2
    have lE : (cE t x' + 1).toInt = (cE t x').toInt + 1 := by
      rw [(twt.s0 x').2.1] at wE
      rw [ktI_add] <;> omega
    refine ⟨⟨⟨by trivial, by trivial⟩, ⟨by omega, by omega⟩, Hu, twt.trans tu, fun j => (u75 j).trans (q75 j), ?_, fun p w => ?_, fun j a b d => ?_⟩, by omega⟩
    · rw [uE, lE]
      omega
    · have tp := cIn.add Ht hxt (i := cE t x') (by rw [i32_le]; omega) (by rw [i32_lt, (twt.s0 x').2.1]; omega)
      have z := (uent p).1 (fun z => by
        rw [z, tp.2, (twt.s0 x').1] at w
        omega)
      have y := hent p (by omega)
      exact ⟨z.1.trans y.1, z.2.1.trans y.2.1, z.2.2.1.trans y.2.2.1, z.2.2.2.trans y.2.2.2⟩
    · have tp := cIn.add Ht hxt (i := cE t x') (by rw [i32_le]; omega) (by rw [i32_lt, (twt.s0 x').2.1]; omega)
      by_cases q : j = i
      · refine ⟨cE t x', by rw [i32_le]; omega, by rw [i32_lt, uE, lE]; omega, ?_⟩
        have z := (uent (cS0 t x' + cE t x')).2 rfl
        rw [(tu.s0 x').1, z.2.2.1, z.2.2.2, q]
        exact ⟨he.2.2.1, he.2.2.2⟩
      · have ne : j.toInt ≠ i.toInt := fun e => q (toInt_inj e)
        obtain ⟨k, k0, k1, k2, k3⟩ := hlv j a (by omega) d
        have kk1 := k1
        rw [i32_lt] at kk1
        have kk0 := k0
        rw [i32_le] at kk0
        have tk := cIn.add Ht hxt (i := k) k0 (by rw [i32_lt]; omega)
        have z := (uent (cS0 t x' + k)).1 (fun e => by
          have := congrArg Int32.toInt e
          omega)
        refine ⟨k, k0, by rw [i32_lt, uE, lE]; omega, ?_⟩
        rw [(tu.s0 x').1, z.2.2.1, z.2.2.2]
        exact ⟨k2, k3⟩
