/-! Both readings: the children's number, a whole prototype. -/
def Dc1 (p : Int32) (s s' : S1) : Prop := (∀ f j, ¬ chX f → ¬ (f = 18442 ∧ j = p) → gI s' f j = gI s f j) ∧ (∀ a i j, gA s' a i j = gA s a i j)
def Dt1 (p : Int32) (t t' : S1) : Prop := (∀ f i, f ≠ 3 → f ≠ 4 → f ≠ 28 → f ≠ 29 → f ≠ 27 → gI t' f i = gI t f i) ∧ (∀ a i j, a ≠ 51 → ¬ (a = 52 ∧ j = p) → gA t' a i j = gA t a i j)
def kdG (rec : Int32 → Int32 → M (Unit)) (s t : S1) (l2 p : Int32) (Q : S1 → Prop) (r : Int32 × (Nat × Nat)) (s' : S1) : Prop := (r.1 = 0 → ∀ t', Ff s' t' → Q t') ∧ (r.1 ≠ 0 → ∀ t', Rn5 s' t' → Dc1 p s s' → Dt1 p t t' → gI s' 18442 p = gA t' 52 0 p → 0 ≤ (gI s' 18442 p).toInt → hu (oB (oW (M_Mo_proto_L458 rec) (l2, p, gI s' 18442 p, 0)) fun _ => oR ()) t' (fun _ t2 => Q t2))
theorem kd2 {rec : Int32 → Int32 → M (Unit)} (hr : ∀ a b, Skk (rec a b)) {s t : S1} {l2 p : Int32} {ln : Nat × Nat} {Q : S1 → Prop} (rn : Rn5 s t) :
    hu (oB (M_Ch_readNumber 1) fun v78 => oB (oPI 18442 p v78) fun _ => oB (oGI 18442 p) fun v85 => oC (v85 < 0) (oR (0, ln)) (oR (1, ln))) s (fun r s' => hu (M_Mo_proto_j410 rec l2 p) t (fun _ t2 => kdG rec s t l2 p Q r s' → Q t2)) := by
  have g0 : ∀ s' (a : Unit) t2, Ff s' t2 → kdG rec s t l2 p Q (0, ln) s' → Q t2 := fun s' _ t2 f g => g.1 rfl t2 f
  unfold M_Mo_proto_j410
  refine numC (k := 1) (by decide) rn ?_ ?_
  · rintro v s2 w t2 ⟨rn2, nn2, nb2, ew, v1, -, -, -⟩
    obtain ⟨va, vb⟩ := v1 rfl
    refine r_GI (r_ct rn2.2.2.2.2.2 (r_SI fun _ => r_GI (r_SI fun _ => r_GI (r_PI ?_))))
    rw [ew, hu_B, hu_PI, hu_B, hu_GI, gI_sI, if_pos ⟨rfl, rfl⟩, hu_C]
    refine ⟨fun c => absurd (nn0 va) (Int32.not_le.mpr c), fun _ => ?_⟩
    rw [hu_R]
    have i2 : gI (sI s2 18442 p v) 18442 p = v := by rw [gI_sI, if_pos ⟨rfl, rfl⟩]
    have K : ∀ T : S1, Rn5 (sI s2 18442 p v) T → Dt1 p t T → gA T 52 0 p = v → hu (oB (oW (M_Mo_proto_L458 rec) (l2, p, v, 0)) fun _ => oR ()) T (fun _ t2 => kdG rec s t l2 p Q (1, ln) (sI s2 18442 p v) → Q t2) := by
      intro T q1 q2 q3 a t3 E g
      have dcx : Dc1 p s (sI s2 18442 p v) := ⟨fun f j x y => by rw [gI_sI, if_neg y]; exact nn2.1 f j x, fun a i j => nn2.A a i j⟩
      have z := g.2 (show (1 : Int32) ≠ 0 by decide) T q1 dcx q2 (by rw [i2, q3]) (by rw [i2]; exact va)
      rw [i2] at z
      exact z a t3 E
    refine K _ ((((rn2.ws (by decide)).tA (by decide)).tA (by decide)).wt (by decide)) ⟨fun f i x y z w q => ?_, fun a i j x y => ?_⟩ ?_
    · rw [gI_sI, if_neg (fun z => q z.1)]
      exact nb2.1 f i x y z w
    · show gA (sA (sA t2 52 0 p v) 51 0 p _) a i j = _
      rw [gA_sA, if_neg (fun z => x z.1), gA_sA, if_neg (fun z => y ⟨z.1, z.2.2⟩)]
      exact nb2.2.2.1 a i j
    · show gA (sA (sA t2 52 0 p v) 51 0 p _) 52 0 p = _
      rw [gA_sA, if_neg (fun z => absurd z.1 (by decide)), gA_sA, if_pos ⟨rfl, rfl, rfl⟩]
  · intro s2 t2 hf nn2
    rw [hu_B, hu_PI, hu_B, hu_GI, gI_sI, if_pos ⟨rfl, rfl⟩, hu_C]
    exact ⟨fun _ => r_end (hf.ws (by decide)) (skk_B (skk_GI _ _) fun _ => skk_C (skk_B skk_SI fun _ => skk_B (skk_GI _ _) fun _ => skk_B skk_SI fun _ => skk_B (skk_GI _ _) fun _ => skk_B (skk_PI (by decide)) fun _ => skk_B (skk_W (fun y => skk_Mo_proto_L458 hr y) _) fun _ => skk_R _) (skk_R _)) (g0 _), fun c => absurd (by decide) c⟩
/-- what was read of prototype q agrees -/
def Pp5 (s t : S1) (q : Int32) : Prop := gI s 18434 q = gA t 44 0 q ∧ gI s 18435 q = gA t 45 0 q ∧ gI s 18437 q = gA t 48 0 q ∧ Pk q s t ∧ gI s 18442 q = gA t 52 0 q ∧ 0 ≤ (gI s 18442 q).toInt
def Rall (s t : S1) (n : Nat) : Prop := Rn5 s t ∧ Rc s t ∧ Wk s t ∧ gI s 12937 0 = Int32.ofNat n ∧ gI t 23 0 = Int32.ofNat n ∧ ∀ q : Nat, q < n → Pp5 s t (Int32.ofNat q)
/-- frames over the whole of a prototype's reading -/
def Fss (p : Int32) (s s' : S1) : Prop := (∀ f j, 18432 ≤ f → f < 18560 → j ≠ p → gI s' f j = gI s f j) ∧ (∀ i j, gA s' 109 i j = gA s 109 i j) ∧ (∀ i j, gA s' 110 i j = gA s 110 i j)
def Ftt (p : Int32) (k : Int) (t t' : S1) : Prop := (∀ a j, a = 44 ∨ a = 45 ∨ a = 48 ∨ a = 49 ∨ a = 50 ∨ a = 52 → j ≠ p → gA t' a 0 j = gA t a 0 j) ∧ ∀ j : Int32, j.toInt < k → gA t' 56 0 j = gA t 56 0 j
theorem Fss.trans {p : Int32} {s u v : S1} (a : Fss p s u) (b : Fss p u v) : Fss p s v := ⟨fun f j x y z => (b.1 f j x y z).trans (a.1 f j x y z), fun i j => (b.2.1 i j).trans (a.2.1 i j), fun i j => (b.2.2 i j).trans (a.2.2 i j)⟩
theorem Ftt.trans {p : Int32} {k : Int} {s u v : S1} (a : Ftt p k s u) (b : Ftt p k u v) : Ftt p k s v := ⟨fun c j x y => (b.1 c j x y).trans (a.1 c j x y), fun j x => (b.2 j x).trans (a.2 j x)⟩
theorem Pp5.fr {s t s' t' : S1} {p q : Int32} {k : Int} (h : Pp5 s t q) (hq : q ≠ p) (a : Fss p s s') (b : Ftt p k t t') (ek : rK s ≤ k) (k' : rK s ≤ rK s') : Pp5 s' t' q := by
  obtain ⟨h1, h2, h3, ⟨k1, k2, k3, k4, k5, k6⟩, h5, h6⟩ := h
  have I : ∀ f, 18432 ≤ f → f < 18560 → gI s' f q = gI s f q := fun f x y => a.1 f q x y hq
  have J : ∀ c, c = 44 ∨ c = 45 ∨ c = 48 ∨ c = 49 ∨ c = 50 ∨ c = 52 → gA t' c 0 q = gA t c 0 q := fun c x => b.1 c q x hq
  refine ⟨by rw [I _ (by decide) (by decide), J _ (by decide)]; exact h1, by rw [I _ (by decide) (by decide), J _ (by decide)]; exact h2, by rw [I _ (by decide) (by decide), J _ (by decide)]; exact h3, ⟨by rw [I _ (by decide) (by decide), J _ (by decide)]; exact k1, by rw [I _ (by decide) (by decide), J _ (by decide)]; exact k2, by rw [I _ (by decide) (by decide)]; exact k3, by rw [I _ (by decide) (by decide)]; exact k4, by rw [I _ (by decide) (by decide), I _ (by decide) (by decide)]; omega, fun j j0 j1 => ?_⟩, by rw [I _ (by decide) (by decide), J _ (by decide)]; exact h5, by rw [I _ (by decide) (by decide)]; exact h6⟩
  rw [I 18440 (by decide) (by decide)] at j0 j1 ⊢
  rw [I 18439 (by decide) (by decide)] at j1
  rw [I 18441 (by decide) (by decide), b.2 j (by omega)]
  exact k6 j j0 j1
def prG (rec : Int32 → Int32 → M (Unit)) (s : S1) (l2 : Int32) (n : Nat) (Q : S1 → Prop) (r : Int32 × (Nat × Nat)) (s' : S1) : Prop := (r.1 = 0 → ∀ t', Ff s' t' → Q t') ∧ (r.1 ≠ 0 → ∀ t', Rall s' t' (n + 1) → Fss (Int32.ofNat n) s s' → 0 ≤ (gI s' 18442 (Int32.ofNat n)).toInt → hu (oB (oW (M_Mo_proto_L458 rec) (l2, Int32.ofNat n, gI s' 18442 (Int32.ofNat n), 0)) fun _ => oR ()) t' (fun _ t2 => Q t2))
theorem chx {f : Nat} (h : f < 12942 ∨ 12944 < f) : ¬ chX f := by
  unfold chX
  omega
theorem oC_t {α : Type} {c : Prop} [Decidable c] {A B : M α} {s : S1} (h : c) : oC c A B s = A s := if_pos h
theorem oC_f {α : Type} {c : Prop} [Decidable c] {A B : M α} {s : S1} (h : ¬ c) : oC c A B s = B s := if_neg h
theorem pr2 {rec : Int32 → Int32 → M (Unit)} (hr : ∀ a b, Skk (rec a b)) {s t : S1} {n : Nat} {l1 l2 : Int32} {Q : S1 → Prop} {ln : Nat × Nat} (hn : n < 250) (ra : Rall s t n) (hl : l1 = -1 ∨ ∃ a : Nat, a < n ∧ l1 = Int32.ofNat a) :
    hu (M_Ch_readPrototype ln (Int32.ofNat n) l1) s (fun r s' => hu (rH rec l1 l2 (Int32.ofNat n)) (sI t 23 0 (Int32.ofNat n + 1)) (fun _ t2 => prG rec s l2 n Q r s' → Q t2)) := by
  obtain ⟨rn, rc, wk, n1, n2, pp⟩ := ra
  have ne : ∀ q : Nat, q < n → Int32.ofNat q ≠ Int32.ofNat n := fun q hq z => by
    have := oinj (by omega) (by omega) z
    omega
  generalize ep : Int32.ofNat n = p at *
  have main : ∀ (s0 : S1) (ln : Nat × Nat), (∀ f j, ¬ (18432 ≤ f ∧ f < 18560 ∧ j = p) → gI s0 f j = gI s f j) → (∀ a i j, gA s0 a i j = gA s a i j) → hu (M_Ch_readPrototype_j22 p l1 ln) s0 (fun r s' => hu (rH rec l1 l2 p) (sI t 23 0 (p + 1)) (fun _ t2 => prG rec s l2 n Q r s' → Q t2)) := by
    intro s0 ln I0 A0
    unfold M_Ch_readPrototype_j22
    rw [hu_B, hu_Pz]
    intro _
    rw [hu_B, hu_PI, hu_B, hu_PI]
    have I1 : ∀ f j, f ≠ 12937 → ¬ (18432 ≤ f ∧ f < 18560 ∧ j = p) → gI (sI (sI s0 18444 p l1) 12937 0 (p + 1)) f j = gI s f j := fun f j x y => by rw [gI_sI, if_neg (fun z => x z.1), gI_sI, if_neg (fun z => y ⟨by omega, by omega, z.2⟩), I0 f j y]
    have i44 : gI (sI (sI s0 18444 p l1) 12937 0 (p + 1)) 18444 p = l1 := by rw [gI_sI, if_neg (fun z => absurd z.1 (by decide)), gI_sI, if_pos ⟨rfl, rfl⟩]
    have i37 : gI (sI (sI s0 18444 p l1) 12937 0 (p + 1)) 12937 0 = p + 1 := by rw [gI_sI, if_pos ⟨rfl, rfl⟩]
    have A1 : ∀ a i j, gA (sI (sI s0 18444 p l1) 12937 0 (p + 1)) a i j = gA s a i j := A0
    have rn1 : Rn5 (sI (sI s0 18444 p l1) 12937 0 (p + 1)) (sI t 23 0 (p + 1)) := by
      refine Rn5.wt ?_ (by decide)
      obtain ⟨h1, h2, ⟨a1, a2, a3⟩, tp, h5, h6⟩ := rn
      refine ⟨by rw [I1 _ _ (by decide) (fun z => absurd z.1 (by decide))]; exact h1, by rw [I1 _ _ (by decide) (fun z => absurd z.1 (by decide))]; exact h2, ?_, fun j j0 j1 => ?_, ⟨by rw [I1 _ _ (by decide) (fun z => absurd z.1 (by decide))]; exact h5.1, by rw [I1 _ _ (by decide) (fun z => absurd z.1 (by decide))]; exact h5.2⟩, h6⟩
      · unfold Ar rAt rLn
        rw [I1 _ _ (by decide) (fun z => absurd z.1 (by decide)), I1 _ _ (by decide) (fun z => absurd z.1 (by decide))]
        exact ⟨a1, a2, a3⟩
      · unfold rLn at j1
        rw [I1 _ _ (by decide) (fun z => absurd z.1 (by decide))] at j1
        rw [A1]
        exact tp j j0 j1
    have T1 : ∀ f i, f ≠ 23 → gI (sI t 23 0 (p + 1)) f i = gI t f i := fun f i x => by rw [gI_sI, if_neg (fun z => x z.1)]
    have t23 : gI (sI t 23 0 (p + 1)) 23 0 = p + 1 := by rw [gI_sI, if_pos ⟨rfl, rfl⟩]
    have TA : ∀ a i j, gA (sI t 23 0 (p + 1)) a i j = gA t a i j := fun _ _ _ => rfl
    generalize sI (sI s0 18444 p l1) 12937 0 (p + 1) = s1 at *
    generalize sI t 23 0 (p + 1) = t1 at *
    rw [hu_B]
    intro v1 s2 E1 r s' E
    refine hu_mono (head2 hr (l2 := l2) (Q := fun t2 => prG rec s l2 n Q r s' → Q t2) rn1 i44 v1 s2 E1) (fun _ t2 q => q ⟨fun z => ?_, fun z => ?_⟩)
    · rw [oC_t z] at E
      cases E
      exact fun t' hf g => g.1 rfl t' hf
    rw [oC_f z] at E
    obtain ⟨v3, s3, E3, E⟩ := oB_of E
    rintro th ⟨rn2, hc, hrr, h44, h45, hpos⟩
    have a2 : gI s2 18444 p = l1 := by rw [hc.1 _ _ (chx (by decide)) (fun z => absurd z.2.1 (by decide))]; exact i44
    refine hu_mono (up2 hr (l1 := l1) (l2 := l2) (Q := fun t2 => prG rec s l2 n Q r s' → Q t2) rn2 h45 a2 ?_ v3 s3 E3) (fun _ t2 q => q ⟨fun z => ?_, fun z => ?_⟩)
    · intro hl0
      rcases hl with hl | ⟨a, han, hl⟩
      · rw [hl] at hl0
        exact absurd hl0 (by decide)
      · have nea := ne a han
        obtain ⟨o1, o2, -⟩ := pp a han
        rw [← hl] at o1 o2 nea
        have c1 : ∀ f, 18432 ≤ f → f < 18560 → gI s2 f l1 = gI s f l1 := fun f x y => by rw [hc.1 _ _ (chx (by omega)) (fun z => nea z.2.2), I1 _ _ (by omega) (fun z => nea z.2.2)]
        have d1 : ∀ c, gA th c 0 l1 = gA t c 0 l1 := fun c => by rw [hrr.2 _ _ _ (fun z => nea z.2.2), TA]
        rw [c1 _ (by decide) (by decide), c1 _ (by decide) (by decide), d1, d1]
        exact ⟨o1, o2⟩
    · rw [oC_t z] at E
      cases E
      exact fun t' hf g => g.1 rfl t' hf
    rw [oC_f z] at E
    obtain ⟨v4, s4, E4, E⟩ := oB_of E
    intro tu rn3 uc ut
    have skq : Skk (rQ rec l2 p) := by
      unfold rQ
      exact skk_B (skk_Mo_number _) fun _ => skk_C (skk_Mo_proto_j283 hr _ _ _ _) (skk_Mo_proto_j283 hr _ _ _ _)
    have cC : ∀ f, f = 12938 ∨ f = 12939 → gI s3 f 0 = gI s f 0 := fun f x => by
      rw [uc.1 _ _ (chx (by omega)) (by omega) (fun z => by omega), hc.1 _ _ (chx (by omega)) (fun z => by omega), I1 _ _ (by omega) (fun z => by omega)]
    have cT : ∀ f, f = 25 ∨ f = 26 → gI tu f 0 = gI t f 0 := fun f x => by
      rw [ut.1 _ _ (by omega) (by omega) (by omega) (by omega) (by omega), hrr.1 _ _ (by omega) (by omega) (by omega) (by omega), T1 _ _ (by omega)]
    have rc3 : Rc s3 tu := rc.of (cC _ (.inl rfl)) (cC _ (.inr rfl)) (cT _ (.inl rfl)) (cT _ (.inr rfl))
    refine hu_mono (kn2 skq (Q := fun t2 => prG rec s l2 n Q r s' → Q t2) rn3 rc3 v4 s4 E4) (fun _ t2 q => q ⟨fun z => ?_, fun z => ?_⟩)
    · rw [oC_t z] at E
      cases E
      exact fun t' hf g => g.1 rfl t' hf
    rw [oC_f z] at E
    obtain ⟨v5, s5, E5, E⟩ := oB_of E
    intro tk rn4 rc4 h48 kc kt
    have k4 : gI s4 12939 0 = gI s 12939 0 := (kc.1 _ _ (chx (by decide)) (by decide) (fun z => by omega)).trans (cC _ (.inr rfl))
    have rk4 : rK s4 = rK s := by
      show (gI s4 12939 0).toInt = _
      rw [k4]
    have sA4 : ∀ a i j, a = 104 ∨ a = 109 ∨ a = 110 → gA s4 a i j = gA s a i j := fun a i j x => by
      have w : gA s2 a i j = gA s1 a i j := by
        show s2.2.2.1 a i j = s1.2.2.1 a i j
        rw [hc.2]
      rw [kc.2 _ _ _ (by omega), uc.2 _ _ _ (by omega), w, A1]
    have tA4 : ∀ a j, a = 55 ∨ a = 56 → gA tk a 0 j = gA t a 0 j := fun a j x => by
      rw [kt.2 _ _ _ (by omega) (by omega) (by omega) (fun z => by omega), ut.2 _ _ _ (by omega) (by omega), hrr.2 _ _ _ (fun z => by omega), TA]
    have wk4 : Wk s4 tk := fun j j0 j1 => by
      rw [rk4] at j1
      rw [sA4 _ _ _ (.inl rfl), tA4 _ _ (.inl rfl)]
      exact wk j j0 j1
    refine hu_mono (cd2 hr (l2 := l2) (Q := fun t2 => prG rec s l2 n Q r s' → Q t2) rn4 rc4 wk4 v5 s5 E5) (fun _ t2 q => q ⟨fun z => ?_, fun z => ?_⟩)
    · rw [oC_t z] at E
      cases E
      exact fun t' hf g => g.1 rfl t' hf
    rw [oC_f z] at E
    intro tc rn5 rc5 pk5 c40 wk5 cc ct
    refine hu_mono (kd2 hr (l2 := l2) (Q := fun t2 => prG rec s l2 n Q r s' → Q t2) rn5 r s' E) (fun _ t2 q => q ⟨fun z t' hf g => g.1 z t' hf, fun z => ?_⟩)
    intro td rn6 dc dt h52 h52p a3 t3 E6 g
    have rk6 : rK s' = rK s5 := by
      show (gI s' 12939 0).toInt = _
      rw [dc.1 _ _ (chx (by decide)) (fun z => absurd z.1 (by decide))]
    have k45 : rK s ≤ rK s5 := by
      have x1 := pk5.2.2.2.2.1
      have x2 := pk5.2.2.2.1
      have e40 : (gI s5 18440 p).toInt = rK s := by
        rw [c40]
        exact rk4
      omega
    -- own data of p, to the end
    have S6 : ∀ f, (f = 18434 ∨ f = 18435) → gI s' f p = gI s2 f p := fun f x => by
      rw [dc.1 _ _ (chx (by omega)) (fun z => by omega), cc.1 _ _ (chx (by omega)) (by omega) (fun z => by omega), kc.1 _ _ (chx (by omega)) (by omega) (fun z => by omega), uc.1 _ _ (chx (by omega)) (by omega) (fun z => by omega)]
    have T6 : ∀ a, (a = 44 ∨ a = 45) → gA td a 0 p = gA th a 0 p := fun a x => by
      rw [dt.2 _ _ _ (by omega) (fun z => by omega), ct.2.1 _ _ _ (by omega) (by omega) (fun z => by omega), kt.2 _ _ _ (by omega) (by omega) (by omega) (fun z => by omega), ut.2 _ _ _ (by omega) (by omega)]
    have s37 : gI s' 18437 p = gI s4 18437 p := by
      rw [dc.1 _ _ (chx (by decide)) (fun z => absurd z.1 (by decide)), cc.1 _ _ (chx (by decide)) (by decide) (fun z => absurd z.1 (by decide))]
    have t48 : gA td 48 0 p = gA tk 48 0 p := by
      rw [dt.2 _ _ _ (by decide) (fun z => absurd z.1 (by decide)), ct.2.1 _ _ _ (by decide) (by decide) (fun z => absurd z.1 (by decide))]
    have S5 : ∀ f, (f = 18439 ∨ f = 18440 ∨ f = 18441) → gI s' f p = gI s5 f p := fun f x => dc.1 _ _ (chx (by omega)) (fun z => by omega)
    have T5 : ∀ a j, a ≠ 51 → a ≠ 52 → gA td a 0 j = gA tc a 0 j := fun a j x y => dt.2 _ _ _ x (fun z => y z.1)
    have c7 : gI s' 12937 0 = p + 1 := by
      rw [dc.1 _ _ (chx (by decide)) (fun z => absurd z.1 (by decide)), cc.1 _ _ (chx (by decide)) (by decide) (fun z => absurd z.1 (by decide)), kc.1 _ _ (chx (by decide)) (by decide) (fun z => absurd z.1 (by decide)), uc.1 _ _ (chx (by decide)) (by decide) (fun z => absurd z.1 (by decide)), hc.1 _ _ (chx (by decide)) (fun z => absurd z.1 (by decide)), i37]
    have c23 : gI td 23 0 = p + 1 := by
      rw [dt.1 _ _ (by decide) (by decide) (by decide) (by decide) (by decide), ct.1 _ _ (by decide) (by decide) (by decide) (by decide) (by decide), kt.1 _ _ (by decide) (by decide) (by decide) (by decide) (by decide), ut.1 _ _ (by decide) (by decide) (by decide) (by decide) (by decide), hrr.1 _ _ (by decide) (by decide) (by decide) (by decide), t23]
    have ep1 : p + 1 = Int32.ofNat (n + 1) := by
      rw [← ep]
      exact ofN1 n
    have fss : Fss p s s' := by
      refine ⟨fun f j x y z => ?_, fun i j => ?_, fun i j => ?_⟩
      · rw [dc.1 _ _ (chx (by omega)) (fun w => z w.2), cc.1 _ _ (chx (by omega)) (by omega) (fun w => z w.2), kc.1 _ _ (chx (by omega)) (by omega) (fun w => z w.2), uc.1 _ _ (chx (by omega)) (by omega) (fun w => z w.2), hc.1 _ _ (chx (by omega)) (fun w => z w.2.2), I1 _ _ (by omega) (fun w => z w.2.2)]
      · rw [dc.2, cc.2.1 _ _ _ (by decide), sA4 _ _ _ (.inr (.inl rfl))]
      · rw [dc.2, cc.2.1 _ _ _ (by decide), sA4 _ _ _ (.inr (.inr rfl))]
    have ftt : Ftt p (rK s) t td := by
      refine ⟨fun a j x y => ?_, fun j x => ?_⟩
      · rw [dt.2 _ _ _ (by omega) (fun w => y w.2), ct.2.1 _ _ _ (by omega) (by omega) (fun w => y w.2), kt.2 _ _ _ (by omega) (by omega) (by omega) (fun w => y w.2), ut.2 _ _ _ (by omega) (by omega), hrr.2 _ _ _ (fun w => y w.2.2), TA]
      · rw [T5 _ _ (by decide) (by decide), (ct.2.2 j (by rw [rk4]; exact x)).2, tA4 _ _ (.inr rfl)]
    refine g.2 z td ⟨rn6, ?_, ?_, ?_, ?_, ?_⟩ (by rw [ep]; exact fss) (by rw [ep]; exact h52p) a3 t3 (by rw [ep]; exact E6)
    · exact rc5.of (dc.1 _ _ (chx (by decide)) (fun z => absurd z.1 (by decide))) (dc.1 _ _ (chx (by decide)) (fun z => absurd z.1 (by decide))) (dt.1 _ _ (by decide) (by decide) (by decide) (by decide) (by decide)) (dt.1 _ _ (by decide) (by decide) (by decide) (by decide) (by decide))
    · intro j j0 j1
      rw [rk6] at j1
      rw [dc.2, T5 _ _ (by decide) (by decide)]
      exact wk5 j j0 j1
    · rw [c7, ep1]
    · rw [c23, ep1]
    · intro q hq
      by_cases eq : q = n
      · rw [eq, ep]
        refine ⟨by rw [S6 _ (.inl rfl), T6 _ (.inl rfl)]; exact h44, by rw [S6 _ (.inr rfl), T6 _ (.inr rfl)]; exact h45, by rw [s37, t48]; exact h48, ?_, h52, h52p⟩
        obtain ⟨k1, k2, k3, k4, k5, k6⟩ := pk5
        refine ⟨by rw [S5 _ (by decide), T5 _ _ (by decide) (by decide)]; exact k1, by rw [S5 _ (by decide), T5 _ _ (by decide) (by decide)]; exact k2, by rw [S5 _ (by decide)]; exact k3, by rw [S5 _ (by decide)]; exact k4, by rw [S5 _ (by decide), S5 _ (by decide), rk6]; exact k5, fun j j0 j1 => ?_⟩
        rw [S5 18440 (by decide)] at j0 j1 ⊢
        rw [S5 18439 (by decide)] at j1
        rw [S5 18441 (by decide), T5 _ _ (by decide) (by decide)]
        exact k6 j j0 j1
      · exact (pp q (by omega)).fr (ne q (by omega)) fss ftt (Int.le_refl _) (by rw [rk6]; exact k45)
  have hu_Nz : ∀ (Q : Int32 → S1 → Prop), hu (oNz 144 250 p) s Q ↔ ((0 ≤ p ∧ p < 250) → Q (if gI s (128 * 144 + 127) p = 1 then p else -1) s) := fun Q => hu_ifs rfl Q
  have hu_Ks : ∀ (c : S1 → Prop) (Q : Unit → S1 → Prop), Q () s → hu (oKs c) s Q := fun c Q q a u E => by
    unfold oKs at E
    split at E
    · cases E
      exact q
    · cases E
  unfold M_Ch_readPrototype
  rw [hu_B, hu_Nz]
  intro _
  rw [hu_C]
  refine ⟨fun c => ?_, fun _ => main s ln (fun _ _ _ => rfl) (fun _ _ _ => rfl)⟩
  rw [hu_B, hu_K]
  intro _
  rw [hu_B]
  refine hu_Ks _ _ ?_
  rw [hu_B, hu_Nw]
  intro _
  rw [hu_B, hu_St]
  refine main _ _ (fun f j z => ?_) (fun _ _ _ => rfl)
  rw [gI_nwO, if_neg (fun y => z ⟨by omega, by omega, y.2⟩)]
