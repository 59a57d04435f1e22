/-! The class: reading heads and upvalues. -/
def Ce (s t : S1) : Prop := gI t 12938 0 = gI s 12938 0 ∧ gI t 12939 0 = gI s 12939 0 ∧ gI t 12940 0 = gI s 12940 0
theorem Ce.refl (s : S1) : Ce s s := ⟨rfl, rfl, rfl⟩
theorem Ce.trans {s t u : S1} (a : Ce s t) (b : Ce t u) : Ce s u := ⟨b.1.trans a.1, b.2.1.trans a.2.1, b.2.2.trans a.2.2⟩
theorem Nn.ce {s t : S1} (h : Nn s t) : Ce s t := ⟨h.1 _ _ (by unfold chX; decide), h.1 _ _ (by unfold chX; decide), h.1 _ _ (by unfold chX; decide)⟩
theorem Ce.set {s : S1} {f : Nat} {p x : Int32} (h4 : f / 128 = 144) : Ce s (sI s f p x) := by
  have e : ∀ k, k / 128 = 101 → gI (sI s f p x) k 0 = gI s k 0 := fun k q => by rw [gI_sI, if_neg (fun z => by omega)]
  exact ⟨e _ (by decide), e _ (by decide), e _ (by decide)⟩
/-- a number is read into a field of the prototype -/
def nsQ (F : Nat → Prop) (p : Int32) (s u : S1) (k : Int32) (f : Nat) (v : Int32) (w : S1) : Prop := Rl F p s w ∧ Ar w ∧ Ce s w ∧ gI w f p = v ∧ (∀ g, g / 128 = 144 → g ≠ f → gI w g p = gI u g p) ∧ (v = -1 ∨ (k = 1 → 0 ≤ v.toInt ∧ v.toInt ≤ 255) ∧ (k = 2 → 0 ≤ v.toInt ∧ v.toInt ≤ 65535))
theorem numSet {F : Nat → Prop} {p k : Int32} {s u : S1} {f : Nat} (hk : k = 1 ∨ k = 2) (hF : F f) (h4 : f / 128 = 144) (r : Rl F p s u) (a : Ar u) (c : Ce s u) : ok (M_Ch_readNumber k) u (fun v t => nsQ F p s u k f v (sI t f p v)) := by
  refine ok_mono (number_ok (hk.elim .inl (fun z => .inr (.inl z))) a) ?_
  rintro v t ⟨⟨nn, at_, vr, -⟩, -⟩
  have g : ∀ g j, g / 128 = 101 → gI (sI t f p v) g j = gI t g j := fun g j q => by rw [gI_sI, if_neg (fun z => by omega)]
  refine ⟨r.trans ((nn.rl F p).trans (Rl.set p v t hF h4)), at_.of (g _ _ (by decide)) (g _ _ (by decide)), c.trans (nn.ce.trans (Ce.set h4)), by rw [gI_sI, if_pos ⟨rfl, rfl⟩], fun k q1 q2 => ?_, vr⟩
  rw [gI_sI, if_neg (fun z => q2 z.1)]
  exact nn.1 k p (by unfold chX; omega)
def hdF (f : Nat) : Prop := f = 18432 ∨ f = 18433 ∨ f = 18434 ∨ f = 18435
def Hd (t : S1) (p : Int32) : Prop := (0 ≤ pNp t p ∧ pNp t p ≤ pNr t p) ∧ (2 ≤ pNr t p ∧ pNr t p ≤ 250) ∧ (0 ≤ pNu t p ∧ pNu t p ≤ 60) ∧ (gI t 18444 p < 0 → pNu t p = 1)
def hdQ (s : S1) (p v : Int32) (t : S1) : Prop := Rl hdF p s t ∧ Ar t ∧ Ce s t ∧ (v = 0 ∨ v = 1) ∧ (v ≠ 0 → Hd t p)
theorem ref_hd {s u : S1} {p a b : Int32} {G : Nat → Prop} {Q : Int32 → S1 → Prop} (r : Rl G p s u) (ar : Ar u) (c : Ce s u) (hq : ∀ t, Rl G p s t → Ar t → Ce s t → Q 0 t) : ok (M_Ch_refuse a b) u (fun v t => (v = 0 ∨ v = 1) ∧ Q v t) := by
  refine ok_mono (refuse_ok u a b) ?_
  rintro v t ⟨v0, nn, e⟩
  rw [v0]
  exact ⟨.inl rfl, hq t (r.trans (nn.rl G p)) (ar.of e (nn.1 _ _ (by unfold chX; decide))) (c.trans nn.ce)⟩
theorem hd_no {s t : S1} {p : Int32} (r : Rl hdF p s t) (a : Ar t) (c : Ce s t) : hdQ s p 0 t := ⟨r, a, c, .inl rfl, fun z => absurd rfl z⟩
theorem neg_b {v : Int32} (h : v = -1 ∨ ((1 : Int32) = 1 → 0 ≤ v.toInt ∧ v.toInt ≤ 255) ∧ ((1 : Int32) = 2 → 0 ≤ v.toInt ∧ v.toInt ≤ 65535)) (c : 0 ≤ v) : 0 ≤ v.toInt ∧ v.toInt ≤ 255 := by
  rcases h with z | z
  · rw [z] at c
    exact absurd c (by decide)
  · exact z.1 rfl
theorem neg_w {v : Int32} (h : v = -1 ∨ ((2 : Int32) = 1 → 0 ≤ v.toInt ∧ v.toInt ≤ 255) ∧ ((2 : Int32) = 2 → 0 ≤ v.toInt ∧ v.toInt ≤ 65535)) (c : 0 ≤ v) : 0 ≤ v.toInt ∧ v.toInt ≤ 65535 := by
  rcases h with z | z
  · rw [z] at c
    exact absurd c (by decide)
  · exact z.2 rfl
theorem head80_ok {s u : S1} {p k : Int32} (r : Rl hdF p s u) (a : Ar u) (c : Ce s u) (hp : 0 ≤ pNp u p) (hk : k = 0 → ¬ gI u 18444 p < 0) : ok (M_Ch_readHead_j80 p k) u (hdQ s p) := by
  have e2 : (2 : Int32).toInt = 2 := rfl
  have e250 : (250 : Int32).toInt = 250 := rfl
  have e60 : (60 : Int32).toInt = 60 := rfl
  have j127 : ∀ w, Rl hdF p s w → Ar w → Ce s w → ok M_Ch_readHead_j127 w (hdQ s p) := fun w r a c => by
    simp only [M_Ch_readHead_j127, ok_B, ok_C, ok_R, ok_L, ok_K, ok_GI, ok_GL, ok_PI, ok_PL, ok_AI, ok_AL, ok_SI, ok_SL, ok_CI, cmp_lt, cmp_le, cmp_gt, cmp_ge, cmp_eq, nar0, nar1, Sum.elim_inl, Sum.elim_inr, ok_PzT, ok_PzC, ok_PzP, ok_PrC, ok_PrP, ok_PrF, ok_PrN, ok_Ln, ok_CL, ok_Nw, ok_S, ok_Ks, ok_Nz]
    exact ref_hd r a c (fun t r a c => hd_no r a c)
  have j178 : ∀ w, Rl hdF p s w → Ar w → Ce s w → ok M_Ch_readHead_j178 w (hdQ s p) := fun w r a c => by
    simp only [M_Ch_readHead_j178, ok_B, ok_C, ok_R, ok_L, ok_K, ok_GI, ok_GL, ok_PI, ok_PL, ok_AI, ok_AL, ok_SI, ok_SL, ok_CI, cmp_lt, cmp_le, cmp_gt, cmp_ge, cmp_eq, nar0, nar1, Sum.elim_inl, Sum.elim_inr, ok_PzT, ok_PzC, ok_PzP, ok_PrC, ok_PrP, ok_PrF, ok_PrN, ok_Ln, ok_CL, ok_Nw, ok_S, ok_Ks, ok_Nz]
    exact ref_hd r a c (fun t r a c => hd_no r a c)
  simp only [M_Ch_readHead_j80, ok_B, ok_C, ok_R, ok_L, ok_K, ok_GI, ok_GL, ok_PI, ok_PL, ok_AI, ok_AL, ok_SI, ok_SL, ok_CI, cmp_lt, cmp_le, cmp_gt, cmp_ge, cmp_eq, nar0, nar1, Sum.elim_inl, Sum.elim_inr, ok_PzT, ok_PzC, ok_PzP, ok_PrC, ok_PrP, ok_PrF, ok_PrN, ok_Ln, ok_CL, ok_Nw, ok_S, ok_Ks, ok_Nz]
  refine ok_mono (numSet (f := 18434) (.inl rfl) (by unfold hdF; decide) (by decide) r a c) ?_
  rintro v t ⟨r1, a1, c1, g1, o1, v1⟩
  generalize sI t 18434 p v = w at r1 a1 c1 g1 o1 ⊢
  rw [g1, o1 18432 (by decide) (by decide)]
  refine ⟨fun c2 => ⟨fun _ => j127 w r1 a1 c1, fun c3 => ⟨fun _ => j127 w r1 a1 c1, fun c4 => ⟨fun c5 => ?_, fun _ => j127 w r1 a1 c1⟩⟩⟩, fun _ => hd_no r1 a1 c1⟩
  rw [i32_lt] at c3 c4
  rw [i32_le] at c5
  refine ok_mono (numSet (f := 18435) (.inl rfl) (by unfold hdF; decide) (by decide) r1 a1 c1) ?_
  rintro x t2 ⟨r2, a2, c2', g2, o2, v2⟩
  generalize sI t2 18435 p x = z at r2 a2 c2' g2 o2 ⊢
  rw [g2]
  have b1 : pNr z p = v.toInt := by
    unfold pNr
    rw [o2 18434 (by decide) (by decide), g1]
  have b2 : pNp z p = pNp u p := by
    unfold pNp
    rw [o2 18432 (by decide) (by decide), o1 18432 (by decide) (by decide)]
  have b3 : gI z 18444 p = gI u 18444 p := by rw [o2 18444 (by decide) (by decide), o1 18444 (by decide) (by decide)]
  have b4 : pNu z p = x.toInt := by
    unfold pNu
    rw [g2]
  have e1 : (1 : Int32).toInt = 1 := rfl
  have key : 0 ≤ x → ¬ 60 < x → (gI z 18444 p < 0 → x = 1) → hdQ s p 1 z := fun x0 x1 x2 => by
    rw [i32_lt] at x1
    have w2 := neg_b v2 x0
    refine ⟨r2, a2, c2', .inr rfl, fun _ => ⟨⟨by rw [b2]; exact hp, ?_⟩, ⟨by rw [b1]; omega, by rw [b1]; omega⟩, ⟨by rw [b4]; exact w2.1, by rw [b4]; omega⟩, fun q => ?_⟩⟩
    · rw [b2, b1]
      exact c5
    · rw [b4, x2 q, e1]
  refine ⟨fun x0 => ⟨fun _ => j178 z r2 a2 c2', fun x1 => ⟨fun k0 => key x0 x1 (fun q => absurd (b3 ▸ q) (hk k0)), fun _ => ⟨fun x2 => key x0 x1 (fun _ => x2), fun _ => j178 z r2 a2 c2'⟩⟩⟩, fun _ => hd_no r2 a2 c2'⟩
theorem head_ok {s : S1} {p : Int32} (a : Ar s) : ok (M_Ch_readHead p) s (hdQ s p) := by
  have j68 : ∀ w, Rl hdF p s w → Ar w → Ce s w → ok M_Ch_readHead_j68 w (hdQ s p) := fun w r a c => by
    simp only [M_Ch_readHead_j68, ok_B, ok_C, ok_R, ok_L, ok_K, ok_GI, ok_GL, ok_PI, ok_PL, ok_AI, ok_AL, ok_SI, ok_SL, ok_CI, cmp_lt, cmp_le, cmp_gt, cmp_ge, cmp_eq, nar0, nar1, Sum.elim_inl, Sum.elim_inr, ok_PzT, ok_PzC, ok_PzP, ok_PrC, ok_PrP, ok_PrF, ok_PrN, ok_Ln, ok_CL, ok_Nw, ok_S, ok_Ks, ok_Nz]
    exact ref_hd r a c (fun t r a c => hd_no r a c)
  have j12 : ∀ k : Int32, (k = 0 → ¬ gI s 18444 p < 0) → ok (M_Ch_readHead_j12 p k) s (hdQ s p) := fun k hk => by
    simp only [M_Ch_readHead_j12, ok_B, ok_C, ok_R, ok_L, ok_K, ok_GI, ok_GL, ok_PI, ok_PL, ok_AI, ok_AL, ok_SI, ok_SL, ok_CI, cmp_lt, cmp_le, cmp_gt, cmp_ge, cmp_eq, nar0, nar1, Sum.elim_inl, Sum.elim_inr, ok_PzT, ok_PzC, ok_PzP, ok_PrC, ok_PrP, ok_PrF, ok_PrN, ok_Ln, ok_CL, ok_Nw, ok_S, ok_Ks, ok_Nz]
    refine ok_mono (numSet (f := 18432) (.inl rfl) (by unfold hdF; decide) (by decide) (Rl.refl hdF p s) a (Ce.refl s)) ?_
    rintro v t ⟨r1, a1, c1, g1, o1, v1⟩
    generalize sI t 18432 p v = w at r1 a1 c1 g1 o1 ⊢
    rw [g1]
    refine ⟨fun v0 => ?_, fun _ => hd_no r1 a1 c1⟩
    refine ok_mono (numSet (f := 18433) (.inl rfl) (by unfold hdF; decide) (by decide) r1 a1 c1) ?_
    rintro x t2 ⟨r2, a2, c2, g2, o2, v2⟩
    generalize sI t2 18433 p x = z at r2 a2 c2 g2 o2 ⊢
    rw [g2]
    have hp : 0 ≤ pNp z p := by
      unfold pNp
      rw [o2 18432 (by decide) (by decide), g1]
      exact (neg_b v1 v0).1
    have hk2 : k = 0 → ¬ gI z 18444 p < 0 := fun q => by
      rw [o2 18444 (by decide) (by decide), o1 18444 (by decide) (by decide)]
      exact hk q
    exact ⟨fun _ => ⟨fun _ => j68 z r2 a2 c2, fun _ => ⟨fun _ => head80_ok r2 a2 c2 hp hk2, fun _ => ⟨fun _ => j68 z r2 a2 c2, fun _ => head80_ok r2 a2 c2 hp hk2⟩⟩⟩, fun _ => hd_no r2 a2 c2⟩
  simp only [M_Ch_readHead, ok_B, ok_C, ok_R, ok_L, ok_K, ok_GI, ok_GL, ok_PI, ok_PL, ok_AI, ok_AL, ok_SI, ok_SL, ok_CI, cmp_lt, cmp_le, cmp_gt, cmp_ge, cmp_eq, nar0, nar1, Sum.elim_inl, Sum.elim_inr, ok_PzT, ok_PzC, ok_PzP, ok_PrC, ok_PrP, ok_PrF, ok_PrN, ok_Ln, ok_CL, ok_Nw, ok_S, ok_Ks, ok_Nz]
  refine ⟨fun c => j12 0 (fun _ z => ?_), fun _ => j12 1 (fun z => absurd z (by decide))⟩
  rw [i32_le] at c
  rw [i32_lt] at z
  omega
