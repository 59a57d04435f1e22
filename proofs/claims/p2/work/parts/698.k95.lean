/-! The class: reading a prototype. -/
def Bz (s : S1) (n : Nat × Nat) : Prop := cRo s n (0, 0) ∧ cSf s
def aF (f : Nat) : Prop := 18432 ≤ f ∧ f ≤ 18442
theorem Bz.rl {F : Nat → Prop} {p : Int32} {s t : S1} {n : Nat × Nat} (h : Bz s n) (r : Rl F p s t) (hF : ∀ f, F f → aF f) : Bz t n := by
  have g : ∀ f j, ¬ rdX f → ¬ aF f → gI t f j = gI s f j := fun f j a b => r.1 f j a (fun z => b (hF f z.1))
  refine ⟨cRo.fi (x := 0) h.1 (fun f j q => g f j (by unfold rdX; omega) (by unfold aF; omega)) (fun j _ => r.2.2.1 _ _ _ (by decide)), h.2.congr (fun f j q => g f j ?_ ?_)⟩
  · unfold sfI at q
    unfold rdX
    omega
  · unfold sfI at q
    unfold aF
    omega
/-- a prototype has been read -/
def Pd (s : S1) (q : Int32) : Prop := gI s 18559 q = 1 ∧ Hd s q ∧ (0 ≤ pUs s q ∧ pUs s q + pNu s q ≤ rU s) ∧ (0 ≤ pCs s q ∧ 0 ≤ pNc s q ∧ pCs s q + pNc s q ≤ rC s) ∧ (0 ≤ pKs s q ∧ 0 < pNi s q ∧ pKs s q + pNi s q ≤ rK s) ∧ ((0 < q.toInt → 0 ≤ gI s 18444 q) ∧ (q.toInt ≤ 0 → gI s 18444 q < 0) ∧ (gI s 18444 q).toInt < q.toInt) ∧ (0 ≤ pNh s q ∧ pNh s q ≤ 255) ∧ (0 ≤ gI s 18444 q → ∀ k : Int32, pUs s q ≤ k.toInt → k.toInt < pUs s q + pNu s q → UV s (gI s 18444 q) (gA s 107 0 k))
def Rg (s : S1) (N : Int) : Prop := Ar s ∧ (0 ≤ rC s ∧ 0 ≤ rK s ∧ rC s + rK s ≤ 20000) ∧ (0 ≤ rU s ∧ rU s ≤ 60 * N) ∧ (∀ q : Int32, 0 ≤ q.toInt → q.toInt < N → Pd s q) ∧ ∀ k : Int32, 0 ≤ k.toInt → k.toInt < rC s → Vc s k
theorem UV.eq {s t : S1} {a x : Int32} (h : UV s a x) (e1 : gI t 18434 a = gI s 18434 a) (e2 : gI t 18435 a = gI s 18435 a) : UV t a x := by
  unfold UV pNr pNu
  rw [e1, e2]
  exact h
/-- prototypes that were read before stay -/
theorem Pd.eq {s t : S1} {q : Int32} (h : Pd s q) (g : ∀ f j, f / 128 = 144 → j.toInt ≤ q.toInt → gI t f j = gI s f j) (uv : ∀ k : Int32, 0 ≤ k.toInt → k.toInt < rU s → gA t 107 0 k = gA s 107 0 k) (c : rC s ≤ rC t ∧ rK s ≤ rK t ∧ rU s ≤ rU t) : Pd t q := by
  obtain ⟨h1, h2, h3, h4, h5, h6, h7, h8⟩ := h
  have gq : ∀ f, f / 128 = 144 → gI t f q = gI s f q := fun f z => g f q z (Int.le_refl _)
  unfold Pd Hd pNp pNr pNu pUs pCs pNc pKs pNi pNh at *
  rw [gq 18559 (by decide), gq 18432 (by decide), gq 18434 (by decide), gq 18435 (by decide), gq 18436 (by decide), gq 18437 (by decide), gq 18438 (by decide), gq 18439 (by decide), gq 18440 (by decide), gq 18442 (by decide), gq 18444 (by decide)]
  refine ⟨h1, h2, ⟨h3.1, by omega⟩, ⟨h4.1, h4.2.1, by omega⟩, ⟨h5.1, h5.2.1, by omega⟩, h6, h7, fun z k k0 k1 => ?_⟩
  rw [uv k (by omega) (by omega)]
  exact (h8 z k k0 k1).eq (g _ _ (by decide) (by omega)) (g _ _ (by decide) (by omega))
theorem nwO_I (s : S1) (p : Int32) (f : Nat) (j : Int32) : gI (nwO s 144 p) f j = if f / 128 = 144 ∧ j = p then (if f % 128 = 127 then 1 else if tcG f = 4 then -1 else 0) else gI s f j := rfl
/-- a new prototype: room for it, and what refers to prototypes -/
theorem Bz.new {s : S1} {n : Nat × Nat} {p : Int32} (h : Bz s n) (hp : 0 ≤ p ∧ p < 250) (ab : ¬ gI s 18559 p = 1) (bl : ∀ q : Int32, 0 ≤ q.toInt → q.toInt < p.toInt → gI s 18559 q = 1) : (1 ≤ n.1 ∧ 13 ≤ n.2) ∧ gPr s p ∧ Bz (nwO s 144 p) (n.1 - 1, n.2 - 13) := by
  obtain ⟨⟨al, a, b, c, hw, r1, r2⟩, S⟩ := h
  have e0 : (0 : Int32).toInt = 0 := rfl
  have e250 : (250 : Int32).toInt = 250 := rfl
  have p0 := hp.1
  have p1 := hp.2
  rw [i32_le] at p0
  rw [i32_lt] at p1
  have cp := clampI (x := p) (by omega)
  have pb : p.toNatClampNeg = b := by
    have n1 : ¬ p.toNatClampNeg < b := fun z => ab ((hw.2.2.1 p hp.1 hp.2).2 z)
    by_cases z : b < p.toNatClampNeg
    · exfalso
      have eb : (Int32.ofNat b).toInt = b := ofNat_toInt (by omega)
      have w := bl (Int32.ofNat b) (by omega) (by omega)
      have := (hw.2.2.1 (Int32.ofNat b) (by rw [i32_le]; omega) (by rw [i32_lt]; omega)).1 w
      have cb := clampI (x := Int32.ofNat b) (by omega)
      omega
    · omega
  have g : ∀ f j, ¬ (f / 128 = 144 ∧ j = p) → gI (nwO s 144 p) f j = gI s f j := fun f j q => by rw [nwO_I, if_neg q]
  have g4 : ∀ f j, f / 128 ≠ 144 → gI (nwO s 144 p) f j = gI s f j := fun f j q => g f j (fun z => q z.1)
  have fl : ∀ j, gI (nwO s 144 p) 18559 j = if j = p then 1 else gI s 18559 j := fun j => by
    rw [nwO_I]
    by_cases z : j = p
    · rw [if_pos ⟨rfl, z⟩, if_pos z, if_pos (by decide)]
    · rw [if_neg (fun y => z y.2), if_neg z]
  have bl250 : b < 250 := by omega
  have e3 : cNd (nwO s 144 p) a (b + 1) c = ((cNd s a b c).1 - 1, (cNd s a b c).2 - 13) := by
    unfold cNd
    rw [g4 15230 0 (by decide), show cTl (nwO s 144 p) 12 = cTl s 12 from rfl, show cTl (nwO s 144 p) 13 = cTl s 13 from rfl, show cTl (nwO s 144 p) 14 = cTl s 14 from rfl]
    refine Prod.ext ?_ ?_
    · show _ = _ - 1
      dsimp only
      omega
    · show _ = _ - 13
      dsimp only
      omega
  have k1 : 1 ≤ (cNd s a b c).1 ∧ 13 ≤ (cNd s a b c).2 := by
    unfold cNd
    dsimp only
    omega
  refine ⟨⟨by dsimp only at r1; omega, by dsimp only at r2; omega⟩, ⟨ab, ?_, fun x hx => ?_⟩, ⟨?_, a, b + 1, c, ?_, ?_, ?_⟩, ?_⟩
  · rcases S.2.2.2.2.1 with z | z
    · rw [z]
      intro y
      rw [← y] at hp
      exact absurd hp.1 (by decide)
    · intro y
      rw [y] at z
      exact ab z.2
  · have pf : pF s x := by
      obtain ⟨q1, q2, q3⟩ := hx
      have w := q1 rfl
      refine ⟨⟨q2, ?_⟩, w⟩
      rw [i32_lt]
      have cx := clampI (x := x) (by rw [i32_le] at q2; exact q2)
      have : x.toNatClampNeg < 6400 := q3
      show x.toInt < 6400
      omega
    rcases S.2.2.2.2.2 x pf with z | z
    · rw [z]
      intro y
      rw [← y] at hp
      exact absurd hp.1 (by decide)
    · intro y
      rw [y] at z
      exact ab z.2
  · unfold cAl at al ⊢
    rw [g4 15230 0 (by decide), g4 14220 0 (by decide)]
    exact al
  · refine ⟨⟨hw.1.1, by omega, hw.1.2.2⟩, fun x x0 x1 => ?_, fun x x0 x1 => ?_, fun x x0 x1 => ?_, fun x x0 x1 => ?_⟩
    · rw [g4 18687 x (by decide)]
      exact hw.2.1 x x0 x1
    · rw [fl]
      by_cases z : x = p
      · rw [if_pos z, z]
        exact ⟨fun _ => by omega, fun _ => rfl⟩
      · rw [if_neg z, hw.2.2.1 x x0 x1]
        have : x.toNatClampNeg ≠ b := fun y => z (toInt_inj (by
          have cx := clampI (x := x) (by rw [i32_le] at x0; exact x0)
          omega))
        omega
    · rw [g4 19071 x (by decide)]
      exact hw.2.2.2.1 x x0 x1
    · rw [g4 18687 x (by decide), g4 18815 x (by decide), g4 18943 x (by decide), g4 18942 x (by decide), g4 18814 x (by decide)]
      exact hw.2.2.2.2 x x0 x1
  · rw [e3]
    dsimp only at r1 ⊢
    omega
  · rw [e3]
    dsimp only at r2 ⊢
    omega
  · have up : ∀ x, pP s x → pP (nwO s 144 p) x := fun x hx => by
      refine ⟨hx.1, ?_⟩
      rw [fl]
      split
      · rfl
      · exact hx.2
    obtain ⟨S1, S2, S3, S4, S5, S6⟩ := S
    refine ⟨fun d d0 d1 => ?_, ?_, ?_, ?_, ?_, fun f hf => ?_⟩
    · unfold cFlg cNfl
      rw [g4 19071 d (by decide), g4 19199 d (by decide), g4 19327 d (by decide), g4 19455 d (by decide), g4 18947 d (by decide)]
      simp only [g4 19583 _ (by decide)]
      exact S1 d d0 d1
    · unfold pC
      rw [g4 16395 0 (by decide), g4 19071 _ (by decide)]
      exact S2
    · unfold pC
      rw [g4 16516 0 (by decide), g4 19071 _ (by decide)]
      exact S3
    · unfold pF
      rw [g4 16517 0 (by decide), g4 19583 _ (by decide)]
      exact S4
    · rw [g4 16518 0 (by decide)]
      exact S5.imp id (up _)
    · rw [g4 19458 _ (by decide)]
      exact (S6 f ⟨hf.1, (g4 19583 _ (by decide)).symm.trans hf.2⟩).imp id (up _)
