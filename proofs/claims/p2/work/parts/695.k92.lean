/-! The class: reading upvalues. -/
def u6F (f : Nat) : Prop := f = 18436
def UV (s : S1) (q u : Int32) : Prop := (0 ≤ u.toInt → u.toInt < pNr s q) ∧ (u.toInt < 0 → -1 - u.toInt < pNu s q)
def Cf (s t : S1) : Prop := gI t 12938 0 = gI s 12938 0 ∧ gI t 12939 0 = gI s 12939 0
theorem Nn.at_ {s t : S1} (h : Nn s t) {f : Nat} (j : Int32) (hf : f / 128 = 144 ∨ f = 12937 ∨ f = 12938 ∨ f = 12939 ∨ f = 12940 ∨ f = 12941) : gI t f j = gI s f j := h.1 f j (by unfold chX; omega)
theorem Nn.A {s t : S1} (h : Nn s t) (a : Nat) (j k : Int32) : gA t a j k = gA s a j k := by
  show t.2.2.1 a j k = s.2.2.1 a j k
  rw [h.2]
theorem Nn.B {s t : S1} (h : Nn s t) (a : Nat) (j k : Int32) : gB t a j k = gB s a j k := by
  show t.2.2.2 a j k = s.2.2.2 a j k
  rw [h.2]
/-- an upvalue is written down -/
def upW (F : Nat → Prop) (p x : Int32) (t T : S1) : Prop := Rl F p t T ∧ Ar T ∧ rU T = rU t + 1 ∧ Cf t T ∧ (∀ k, gA T 107 0 k = if k = gI t 12940 0 then x else gA t 107 0 k) ∧ ∀ f j, f / 128 = 144 → gI T f j = gI t f j
theorem up127 {F : Nat → Prop} {t : S1} {p : Int32} (x : Int32) (a : Ar t) (u0 : 0 ≤ rU t) (u1 : rU t < 15000) : upW F p x t (sI (sA t 107 0 (gI t 12940 0) x) 12940 0 (gI t 12940 0 + 1)) := by
  have e1 : (1 : Int32).toInt = 1 := rfl
  have g : ∀ f j, f ≠ 12940 → gI (sI (sA t 107 0 (gI t 12940 0) x) 12940 0 (gI t 12940 0 + 1)) f j = gI t f j := fun f j q => by
    rw [gI_sI, if_neg (fun z => q z.1)]
    rfl
  have gu : rU (sI (sA t 107 0 (gI t 12940 0) x) 12940 0 (gI t 12940 0 + 1)) = rU t + 1 := by
    show (gI _ 12940 0).toInt = _
    rw [gI_sI, if_pos ⟨rfl, rfl⟩, ktI_add]
    · rfl
    · show -2147483648 ≤ rU t + 1 ∧ rU t + 1 < 2147483648
      omega
  have gA_ : ∀ b j k, gA (sI (sA t 107 0 (gI t 12940 0) x) 12940 0 (gI t 12940 0 + 1)) b j k = if b = 107 ∧ j = 0 ∧ k = gI t 12940 0 then x else gA t b j k := fun b j k => by rw [gA_sI, gA_sA]
  have c1 : ∀ f, f = 12938 ∨ f = 12939 → gI (sI (sA t 107 0 (gI t 12940 0) x) 12940 0 (gI t 12940 0 + 1)) f 0 = gI t f 0 := fun f q => g f 0 (by omega)
  refine ⟨⟨fun f j q _ => g f j (fun z => q (by rw [z]; unfold rdX; decide)), fun _ _ => rfl, fun b j k q => ?_, fun _ _ _ _ => rfl, fun k _ _ => ?_, fun k _ _ => ⟨?_, rfl⟩, fun k k0 k1 => ?_, ?_, ?_, by rw [gu]; omega⟩, a.of (g _ _ (by decide)) (g _ _ (by decide)), gu, ⟨c1 _ (by decide), c1 _ (by decide)⟩, fun k => ?_, fun f j q => g f j (by omega)⟩
  · rw [gA_, if_neg (fun z => q.2.2 z.1)]
  · rw [gA_, if_neg (fun z => absurd z.1 (by decide))]
  · rw [gA_, if_neg (fun z => absurd z.1 (by decide))]
  · rw [gA_, if_neg (fun z => ?_)]
    rw [z.2.2] at k1
    exact absurd k1 (Int.lt_irrefl _)
  · unfold rC
    rw [c1 _ (by decide)]
    exact Int.le_refl _
  · unfold rK
    rw [c1 _ (by decide)]
    exact Int.le_refl _
  · rw [gA_]
    by_cases z : k = gI t 12940 0
    · rw [if_pos ⟨rfl, rfl, z⟩, if_pos z]
    · rw [if_neg (fun y => z y.2.2), if_neg z]
/-- upvalues are being read -/
def upI (s : S1) (p : Int32) (i : Int) (t : S1) : Prop := (Rl u6F p s t ∧ Ar t ∧ Cf s t ∧ (∀ f j, f / 128 = 144 → gI t f j = gI s f j)) ∧ rU t = rU s + i ∧ (0 ≤ gI s 18444 p → ∀ k : Int32, rU s ≤ k.toInt → k.toInt < rU t → UV s (gI s 18444 p) (gA t 107 0 k))
theorem upI.nn {s t u : S1} {p : Int32} {i : Int} (h : upI s p i t) (n : Nn t u) (a : Ar u) : upI s p i u := by
  obtain ⟨⟨h1, h2, h3, h4⟩, h5, h6⟩ := h
  have eu : rU u = rU t := by
    unfold rU
    rw [n.at_ 0 (by decide)]
  refine ⟨⟨h1.trans (n.rl _ _), a, ⟨(n.at_ 0 (by decide)).trans h3.1, (n.at_ 0 (by decide)).trans h3.2⟩, fun f j q => (n.at_ j (.inl q)).trans (h4 f j q)⟩, eu.trans h5, fun z k k0 k1 => ?_⟩
  rw [n.A]
  exact h6 z k k0 (by rw [← eu]; exact k1)
theorem upI.add {s t : S1} {p x : Int32} {i : Int} (h : upI s p i t) (u0 : 0 ≤ rU t) (u1 : rU t < 15000) (hx : 0 ≤ gI s 18444 p → UV s (gI s 18444 p) x) : upI s p (i + 1) (sI (sA t 107 0 (gI t 12940 0) x) 12940 0 (gI t 12940 0 + 1)) := by
  obtain ⟨⟨h1, h2, h3, h4⟩, h5, h6⟩ := h
  obtain ⟨w1, w2, w3, w4, w5, w6⟩ := up127 (F := u6F) (p := p) x h2 u0 u1
  refine ⟨⟨h1.trans w1, w2, ⟨w4.1.trans h3.1, w4.2.trans h3.2⟩, fun f j q => (w6 f j q).trans (h4 f j q)⟩, by rw [w3]; omega, fun z k k0 k1 => ?_⟩
  rw [w5]
  by_cases e : k = gI t 12940 0
  · rw [if_pos e]
    exact hx z
  · rw [if_neg e]
    refine h6 z k k0 ?_
    have ne : k.toInt ≠ rU t := fun y => e (toInt_inj y)
    omega
def upP (s : S1) (p : Int32) (e : Unit ⊕ Unit ⊕ Unit ⊕ Unit ⊕ Unit) (t : S1) : Prop := ∃ i : Int, 0 ≤ i ∧ i ≤ pNu s p ∧ upI s p i t ∧ (e = .inr (.inr (.inr (.inr ()))) → i = pNu s p)
def upL (s : S1) (p : Int32) (y : Int32 × Int32) (t : S1) : Prop := y.1 = p ∧ 0 ≤ y.2.toInt ∧ y.2.toInt ≤ pNu s p ∧ upI s p y.2.toInt t
theorem UV_neg {s : S1} {q x : Int32} (x0 : 0 ≤ x.toInt ∧ x.toInt ≤ 255) (h : x.toInt < pNu s q) : UV s q (-1 - x) := by
  have em : (-1 : Int32).toInt = -1 := rfl
  have es : (-1 - x).toInt = -1 - x.toInt := by rw [ktI_sub] <;> omega
  generalize -1 - x = y at es
  exact ⟨fun z => absurd z (by omega), fun _ => by omega⟩
theorem upLoop_ok {s : S1} {p : Int32} (a : Ar s) (hu : 0 ≤ pNu s p ∧ pNu s p ≤ 60) (u0 : 0 ≤ rU s) (u1 : rU s + pNu s p ≤ 15000) (hq : 0 ≤ gI s 18444 p → pP s (gI s 18444 p)) : ok (oW M_Ch_readUpvalues_L10 (p, 0)) s (upP s p) := by
  have e0 : (0 : Int32).toInt = 0 := rfl
  have e1 : (1 : Int32).toInt = 1 := rfl
  have em : (-1 : Int32).toInt = -1 := rfl
  have e15 : (15000 : Int32).toInt = 15000 := rfl
  refine ok_W (upL s p) (fun y _ => (60 - y.2.toInt).toNat) ?_ (p, 0) s ⟨rfl, Int.le_refl _, by show (0 : Int32).toInt ≤ _; rw [e0]; exact hu.1, ⟨Rl.refl _ _ s, a, ⟨rfl, rfl⟩, fun _ _ _ => rfl⟩, by show rU s = rU s + (0 : Int32).toInt; rw [e0]; omega, fun _ k k0 k1 => absurd k1 (by omega)⟩
  rintro ⟨p', i⟩ t ⟨ep, i0, i1, up⟩
  dsimp only at ep i0 i1 up
  rw [ep]
  obtain ⟨⟨r1, a1, c1, f1⟩, ru, uv⟩ := up
  have up : upI s p i.toInt t := ⟨⟨r1, a1, c1, f1⟩, ru, uv⟩
  simp only [M_Ch_readUpvalues_L10, ok_B, ok_C, ok_R, ok_L, ok_K, ok_GI, ok_GL, ok_PI, ok_PL, ok_AI, ok_AL, ok_SI, ok_SL, ok_CI, cmp_lt, cmp_le, cmp_gt, cmp_ge, cmp_eq, nar0, nar1, Sum.elim_inl, Sum.elim_inr, ok_PzT, ok_PzC, ok_PzP, ok_PrC, ok_PrP, ok_PrF, ok_PrN, ok_Ln, ok_CL, ok_Nw, ok_S, ok_Ks, ok_Nz]
  rw [f1 18435 p (by decide)]
  refine ⟨fun c => ⟨i.toInt, i0, i1, up, fun _ => ?_⟩, fun c => ?_⟩
  · rw [i32_le] at c
    change pNu s p ≤ i.toInt at c
    omega
  · rw [i32_le] at c
    change ¬ pNu s p ≤ i.toInt at c
    refine ok_mono (number_ok (.inl rfl) a1) ?_
    rintro v t1 ⟨⟨n1, a2, v1, -⟩, -⟩
    have up1 := up.nn n1 a2
    rw [n1.at_ p (by decide), f1 18444 p (by decide)]
    have ei : (i + 1).toInt = i.toInt + 1 := by rw [ktI_add] <;> omega
    have j54 : (0 ≤ gI s 18444 p → v.toInt ≤ 1) → 0 ≤ v.toInt → ok (M_Ch_readUpvalues_j54 p i v) t1 (fun y t => Sum.elim (fun z => upL s p z t ∧ (60 - z.2.toInt).toNat < (60 - i.toInt).toNat) (fun e => upP s p e t) y) := fun hv v0 => by
      simp only [M_Ch_readUpvalues_j54, ok_B, ok_C, ok_R, ok_L, ok_K, ok_GI, ok_GL, ok_PI, ok_PL, ok_AI, ok_AL, ok_SI, ok_SL, ok_CI, cmp_lt, cmp_le, cmp_gt, cmp_ge, cmp_eq, nar0, nar1, Sum.elim_inl, Sum.elim_inr, ok_PzT, ok_PzC, ok_PzP, ok_PrC, ok_PrP, ok_PrF, ok_PrN, ok_Ln, ok_CL, ok_Nw, ok_S, ok_Ks, ok_Nz]
      refine ok_mono (number_ok (.inl rfl) a2) ?_
      rintro x t2 ⟨⟨n2, a3, x1, -⟩, -⟩
      have up2 := up1.nn n2 a3
      have g8 : gI t2 18444 p = gI s 18444 p := up2.1.2.2.2 _ _ (by decide)
      rw [g8]
      have j105 : 0 ≤ x → (0 ≤ gI s 18444 p → x.toInt < (if v = 1 then pNr s (gI s 18444 p) else pNu s (gI s 18444 p))) → ok (M_Ch_readUpvalues_j105 p i v x) t2 (fun y t => Sum.elim (fun z => upL s p z t ∧ (60 - z.2.toInt).toNat < (60 - i.toInt).toNat) (fun e => upP s p e t) y) := fun x0 hx => by
        have xr := neg_b x1 x0
        have ru2 := up2.2.1
        have b0 : 0 ≤ rU t2 := by omega
        have b1 : rU t2 < 15000 := by omega
        have inr_ : 0 ≤ gI t2 12940 0 ∧ gI t2 12940 0 < 15000 := ⟨by rw [i32_le]; exact b0, by rw [i32_lt]; exact b1⟩
        have fin : ∀ {T : S1}, upI s p (i.toInt + 1) T → upL s p (p, i + 1) T ∧ (60 - (i + 1).toInt).toNat < (60 - i.toInt).toNat := fun {T} q => ⟨⟨rfl, by dsimp only; omega, by dsimp only; omega, by dsimp only; rw [ei]; exact q⟩, by omega⟩
        simp only [M_Ch_readUpvalues_j105, M_Ch_readUpvalues_j127, ok_B, ok_C, ok_R, ok_L, ok_K, ok_GI, ok_GL, ok_PI, ok_PL, ok_AI, ok_AL, ok_SI, ok_SL, ok_CI, cmp_lt, cmp_le, cmp_gt, cmp_ge, cmp_eq, nar0, nar1, Sum.elim_inl, Sum.elim_inr, ok_PzT, ok_PzC, ok_PzP, ok_PrC, ok_PrP, ok_PrF, ok_PrN, ok_Ln, ok_CL, ok_Nw, ok_S, ok_Ks, ok_Nz]
        refine ⟨fun ve => ⟨inr_, fin (up2.add b0 b1 (fun z => ⟨fun _ => ?_, fun y => absurd y (by omega)⟩))⟩, fun ve => ⟨inr_, fin (up2.add b0 b1 (fun z => ?_))⟩⟩
        · have := hx z
          rw [if_pos ve] at this
          exact this
        · have h := hx z
          rw [if_neg ve] at h
          exact UV_neg xr h
      refine ⟨fun x0 => ⟨fun c8 => j105 x0 (fun z => ?_), fun c8 => ?_⟩, fun _ => ⟨i.toInt, i0, i1, up2, fun z => by simp at z⟩⟩
      · rw [i32_lt] at c8
        rw [i32_le] at z
        omega
      · have q0 : 0 ≤ gI s 18444 p := by
          rw [i32_le]
          rw [i32_lt] at c8
          omega
        have pq := hq q0
        have pq2 : pP t2 (gI s 18444 p) := ⟨pq.1, (up2.1.2.2.2 18559 _ (by decide)).trans pq.2⟩
        refine ⟨pq2, ?_⟩
        simp only [M_Ch_mostOf, ok_B, ok_C, ok_R, ok_L, ok_K, ok_GI, ok_GL, ok_PI, ok_PL, ok_AI, ok_AL, ok_SI, ok_SL, ok_CI, cmp_lt, cmp_le, cmp_gt, cmp_ge, cmp_eq, nar0, nar1, Sum.elim_inl, Sum.elim_inr, ok_PzT, ok_PzC, ok_PzP, ok_PrC, ok_PrP, ok_PrF, ok_PrN, ok_Ln, ok_CL, ok_Nw, ok_S, ok_Ks, ok_Nz]
        rw [up2.1.2.2.2 18434 _ (by decide), up2.1.2.2.2 18435 _ (by decide)]
        refine ⟨fun ve => ⟨fun xl => ?_, fun _ => ⟨i.toInt, i0, i1, up2, fun z => by simp at z⟩⟩, fun ve => ⟨fun xl => ?_, fun _ => ⟨i.toInt, i0, i1, up2, fun z => by simp at z⟩⟩⟩
        · refine j105 x0 (fun _ => ?_)
          rw [if_pos ve]
          rw [i32_lt] at xl
          exact xl
        · refine j105 x0 (fun _ => ?_)
          rw [if_neg ve]
          rw [i32_lt] at xl
          exact xl
    refine ⟨fun v0 => ⟨fun c8 => j54 (fun z => ?_) (neg_b v1 v0).1, fun c8 => ⟨fun vl => j54 (fun _ => ?_) (neg_b v1 v0).1, fun _ => ⟨i.toInt, i0, i1, up1, fun z => by simp at z⟩⟩⟩, fun _ => ⟨i.toInt, i0, i1, up1, fun z => by simp at z⟩⟩
    · rw [i32_lt] at c8
      rw [i32_le] at z
      omega
    · rw [i32_le] at vl
      exact vl
/-- upvalues have been read -/
def upQ (s : S1) (p v : Int32) (t : S1) : Prop := (Rl u6F p s t ∧ Ar t ∧ Cf s t ∧ (∀ f j, f / 128 = 144 → ¬ (f = 18436 ∧ j = p) → gI t f j = gI s f j)) ∧ (rU s ≤ rU t ∧ rU t ≤ rU s + pNu s p) ∧ (v = 0 ∨ v = 1) ∧ (v ≠ 0 → pUs t p = rU s ∧ rU t = rU s + pNu s p ∧ (0 ≤ gI s 18444 p → ∀ k : Int32, rU s ≤ k.toInt → k.toInt < rU t → UV s (gI s 18444 p) (gA t 107 0 k)))
theorem upvalues_ok {s : S1} {p : Int32} (a : Ar s) (hu : 0 ≤ pNu s p ∧ pNu s p ≤ 60) (u0 : 0 ≤ rU s) (u1 : rU s + pNu s p ≤ 15000) (hq : 0 ≤ gI s 18444 p → pP s (gI s 18444 p)) : ok (M_Ch_readUpvalues p) s (upQ s p) := by
  simp only [M_Ch_readUpvalues, ok_B, ok_C, ok_R, ok_L, ok_K, ok_GI, ok_GL, ok_PI, ok_PL, ok_AI, ok_AL, ok_SI, ok_SL, ok_CI, cmp_lt, cmp_le, cmp_gt, cmp_ge, cmp_eq, nar0, nar1, Sum.elim_inl, Sum.elim_inr, ok_PzT, ok_PzC, ok_PzP, ok_PrC, ok_PrP, ok_PrF, ok_PrN, ok_Ln, ok_CL, ok_Nw, ok_S, ok_Ks, ok_Nz]
  have rs : Rl u6F p s (sI s 18436 p (gI s 12940 0)) := Rl.set p _ s rfl (by decide)
  have g : ∀ f j, ¬ (f = 18436 ∧ j = p) → gI (sI s 18436 p (gI s 12940 0)) f j = gI s f j := fun f j q => by rw [gI_sI, if_neg q]
  have gs : gI (sI s 18436 p (gI s 12940 0)) 18436 p = gI s 12940 0 := by rw [gI_sI, if_pos ⟨rfl, rfl⟩]
  generalize sI s 18436 p (gI s 12940 0) = s1 at rs g gs ⊢
  have g1 : ∀ f j, f ≠ 18436 → gI s1 f j = gI s f j := fun f j q => g f j (fun z => q z.1)
  have eu : rU s1 = rU s := by
    unfold rU
    rw [g1 _ _ (by decide)]
  have en : pNu s1 p = pNu s p := by
    unfold pNu
    rw [g1 _ _ (by decide)]
  have e8 : gI s1 18444 p = gI s 18444 p := g1 _ _ (by decide)
  have a1 : Ar s1 := a.of (g1 _ _ (by decide)) (g1 _ _ (by decide))
  have base : ∀ {t : S1} {i : Int}, upI s1 p i t → Rl u6F p s t ∧ Ar t ∧ Cf s t ∧ (∀ f j, f / 128 = 144 → ¬ (f = 18436 ∧ j = p) → gI t f j = gI s f j) := fun {t} {i} u => ⟨rs.trans u.1.1, u.1.2.1, ⟨u.1.2.2.1.1.trans (g1 _ _ (by decide)), u.1.2.2.1.2.trans (g1 _ _ (by decide))⟩, fun f j q r => (u.1.2.2.2 f j q).trans (g f j r)⟩
  refine ok_mono (upLoop_ok a1 (by rw [en]; exact hu) (by rw [eu]; exact u0) (by rw [eu, en]; exact u1) (fun z => ?_)) ?_
  · rw [e8] at z ⊢
    have := hq z
    exact ⟨this.1, (g1 _ _ (by decide)).trans this.2⟩
  · rintro e t ⟨i, i0, i1, u, last⟩
    have b := base u
    have ru := u.2.1
    rw [eu] at ru
    rw [en] at i1
    have no : ∀ {w : S1}, Nn t w → Ar w → upQ s p 0 w := fun {w} n aw => by
      have u' := u.nn n aw
      have ru' := u'.2.1
      rw [eu] at ru'
      exact ⟨base u', ⟨by omega, by omega⟩, .inl rfl, fun z => absurd rfl z⟩
    have rf : ∀ x y, ok (M_Ch_refuse x y) t (fun v w => (v = 0 ∨ v = 1) ∧ upQ s p v w) := fun x y => by
      refine ok_mono (refuse_ok t x y) ?_
      rintro v w ⟨v0, n, ea⟩
      rw [v0]
      exact ⟨.inl rfl, no n (b.2.1.of ea (n.at_ 0 (by decide)))⟩
    rcases e with e | e | e | e | e
    · simp only [Sum.elim_inl, Sum.elim_inr, ok_B, ok_C, ok_R, ok_L, ok_K, ok_GI, ok_GL, ok_PI, ok_PL, ok_AI, ok_AL, ok_SI, ok_SL, ok_CI, cmp_lt, cmp_le, cmp_gt, cmp_ge, cmp_eq, nar0, nar1, Sum.elim_inl, Sum.elim_inr, ok_PzT, ok_PzC, ok_PzP, ok_PrC, ok_PrP, ok_PrF, ok_PrN, ok_Ln, ok_CL, ok_Nw, ok_S, ok_Ks, ok_Nz]
      exact no (Nn.refl t) b.2.1
    · simp only [Sum.elim_inl, Sum.elim_inr, ok_B, ok_C, ok_R, ok_L, ok_K, ok_GI, ok_GL, ok_PI, ok_PL, ok_AI, ok_AL, ok_SI, ok_SL, ok_CI, cmp_lt, cmp_le, cmp_gt, cmp_ge, cmp_eq, nar0, nar1, Sum.elim_inl, Sum.elim_inr, ok_PzT, ok_PzC, ok_PzP, ok_PrC, ok_PrP, ok_PrF, ok_PrN, ok_Ln, ok_CL, ok_Nw, ok_S, ok_Ks, ok_Nz]
      exact rf _ _
    · simp only [Sum.elim_inl, Sum.elim_inr, ok_B, ok_C, ok_R, ok_L, ok_K, ok_GI, ok_GL, ok_PI, ok_PL, ok_AI, ok_AL, ok_SI, ok_SL, ok_CI, cmp_lt, cmp_le, cmp_gt, cmp_ge, cmp_eq, nar0, nar1, Sum.elim_inl, Sum.elim_inr, ok_PzT, ok_PzC, ok_PzP, ok_PrC, ok_PrP, ok_PrF, ok_PrN, ok_Ln, ok_CL, ok_Nw, ok_S, ok_Ks, ok_Nz]
      exact no (Nn.refl t) b.2.1
    · simp only [Sum.elim_inl, Sum.elim_inr, ok_B, ok_C, ok_R, ok_L, ok_K, ok_GI, ok_GL, ok_PI, ok_PL, ok_AI, ok_AL, ok_SI, ok_SL, ok_CI, cmp_lt, cmp_le, cmp_gt, cmp_ge, cmp_eq, nar0, nar1, Sum.elim_inl, Sum.elim_inr, ok_PzT, ok_PzC, ok_PzP, ok_PrC, ok_PrP, ok_PrF, ok_PrN, ok_Ln, ok_CL, ok_Nw, ok_S, ok_Ks, ok_Nz]
      exact rf _ _
    · simp only [Sum.elim_inl, Sum.elim_inr, ok_B, ok_C, ok_R, ok_L, ok_K, ok_GI, ok_GL, ok_PI, ok_PL, ok_AI, ok_AL, ok_SI, ok_SL, ok_CI, cmp_lt, cmp_le, cmp_gt, cmp_ge, cmp_eq, nar0, nar1, Sum.elim_inl, Sum.elim_inr, ok_PzT, ok_PzC, ok_PzP, ok_PrC, ok_PrP, ok_PrF, ok_PrN, ok_Ln, ok_CL, ok_Nw, ok_S, ok_Ks, ok_Nz]
      have il := last rfl
      rw [en] at il
      refine ⟨b, ⟨by omega, by omega⟩, .inr rfl, fun _ => ⟨?_, by omega, fun z k k0 k1 => ?_⟩⟩
      · unfold pUs
        rw [u.1.2.2.2 18436 p (by decide), gs]
      · have w := u.2.2 (by rw [e8]; exact z) k (by rw [eu]; exact k0) k1
        rw [e8] at w
        unfold UV pNr pNu at w ⊢
        rw [g1 18434 _ (by decide), g1 18435 _ (by decide)] at w
        exact w
