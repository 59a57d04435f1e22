/-! Both readings: the tree. -/
/-- the class's loop is at its head, and what is kept of those under way reaches down to D -/
def CLh (D n : Nat) (s : S1) (res : ((Nat × Nat) ⊕ (Nat × Nat) ⊕ (Nat × Nat) ⊕ (Nat × Nat)) × S1) : Prop := ∃ (d : Nat) (ln : Nat × Nat), D ≤ d ∧ d ≤ 20 ∧ (∀ j : Nat, D ≤ j → j < d → gA s 110 0 (Int32.ofNat j) = 0) ∧ oW M_Ch_readAll_L9 (Int32.ofNat d, Int32.ofNat n, ln) s = some res
/-- the class has ended with a fault, and the reference tells the same -/
def FRes (res : ((Nat × Nat) ⊕ (Nat × Nat) ⊕ (Nat × Nat) ⊕ (Nat × Nat)) × S1) (t : S1) : Prop := Sum.elim (fun _ => False) (Sum.elim (fun _ => Ff (rfz res.2 3 0) t) (Sum.elim (fun _ => Ff res.2 t) (fun _ => False))) res.1
theorem FRes.sk {res : ((Nat × Nat) ⊕ (Nat × Nat) ⊕ (Nat × Nat) ⊕ (Nat × Nat)) × S1} {t u : S1} (h : FRes res t) (k : Srk t u) : FRes res u := by
  obtain ⟨e, s⟩ := res
  rcases e with e | e | e | e
  · exact h
  · exact Ff.sk h k
  · exact Ff.sk h k
  · exact h
theorem FRes.ne {res : ((Nat × Nat) ⊕ (Nat × Nat) ⊕ (Nat × Nat) ⊕ (Nat × Nat)) × S1} {t : S1} (h : FRes res t) : gI t 3 0 ≠ 0 := by
  obtain ⟨e, s⟩ := res
  rcases e with e | e | e | e
  · exact absurd h id
  · exact (show Ff _ _ from h).1
  · exact (show Ff _ _ from h).1
  · exact absurd h id
def trO (s : S1) (D n : Nat) (res : ((Nat × Nat) ⊕ (Nat × Nat) ⊕ (Nat × Nat) ⊕ (Nat × Nat)) × S1) (t1 : S1) : Prop := FRes res t1 ∨ ∃ (n1 : Nat) (s1 : S1), Rall s1 t1 n1 ∧ n1 ≤ 250 ∧ n < n1 ∧ CLh D n1 s1 res ∧ (∀ j : Nat, j < D → gA s1 109 0 (Int32.ofNat j) = gA s 109 0 (Int32.ofNat j)) ∧ (∀ j : Nat, j + 1 < D → gA s1 110 0 (Int32.ofNat j) = gA s 110 0 (Int32.ofNat j)) ∧ (0 < D → gA s1 110 0 (Int32.ofNat (D - 1)) = gA s 110 0 (Int32.ofNat (D - 1)) - 1)
theorem wo2 {s : S1} {D d : Nat} (hD : D ≤ d) (hd : d ≤ 20) (hz : ∀ j : Nat, D ≤ j → j < d → gA s 110 0 (Int32.ofNat j) = 0) (hn : 0 < D → gA s 110 0 (Int32.ofNat (D - 1)) ≠ 0) : hu (M_Ch_withoutFullOnes (Int32.ofNat d)) s (fun v s' => v = Int32.ofNat D ∧ s' = s) := by
  have e0 : (0 : Int32).toInt = 0 := rfl
  have e1 : (1 : Int32).toInt = 1 := rfl
  unfold M_Ch_withoutFullOnes
  rw [hu_B]
  refine hu_mono (P := fun v s' => v = Int32.ofNat D ∧ s' = s) ?_ (fun v s' q => (hu_R _ _ _).2 q)
  refine hu_W (fun x s' => s' = s ∧ ∃ k : Nat, x = Int32.ofNat k ∧ D ≤ k ∧ k ≤ d) ?_ _ s ⟨rfl, d, rfl, hD, Nat.le_refl _⟩
  rintro x s' ⟨es, k, ek, k1, k2⟩
  rw [es, ek]
  have ok : (Int32.ofNat k).toInt = (k : Int) := oI (by omega)
  unfold M_Ch_withoutFullOnes_L2
  rw [hu_C]
  refine ⟨fun c => ?_, fun c => ?_⟩
  · rw [i32_le, ok, e0] at c
    rw [hu_R]
    have : k = D := by omega
    exact ⟨by rw [this], rfl⟩
  · rw [i32_le, ok, e0] at c
    have kp : 0 < k := by omega
    obtain ⟨m1, -, m3⟩ := ym ok kp (by omega)
    have ey : Int32.ofNat k - 1 = Int32.ofNat (k - 1) := of_toInt m3
    have ez : Int32.ofNat k + -1 = Int32.ofNat (k - 1) := of_toInt m1
    rw [hu_B, hu_AI]
    intro _
    rw [ey, hu_C]
    refine ⟨fun z => ?_, fun z => ?_⟩
    · rw [hu_R]
      refine ⟨rfl, k - 1, ez, ?_, by omega⟩
      by_cases q : k = D
      · rw [q] at z
        exact absurd z (hn (by omega))
      · omega
    · rw [hu_R]
      have : k = D := by
        by_cases q : k = D
        · exact q
        · exact absurd (hz (k - 1) (by omega) (by omega)) z
      exact ⟨by rw [this], rfl⟩
theorem Rall.wA {s t : S1} {n : Nat} {a : Nat} {i j x : Int32} (h : Rall s t n) (ha : a = 109 ∨ a = 110) : Rall (sA s a i j x) t n := by
  obtain ⟨rn, rc, wk, n1, n2, pp⟩ := h
  refine ⟨rn.wA (by omega), rc, fun k k0 k1 => ?_, n1, n2, pp⟩
  rw [gA_sA, if_neg (fun z => by omega)]
  exact wk k k0 k1
theorem Rall.tA {s t : S1} {n : Nat} {i j x : Int32} (h : Rall s t n) : Rall s (sA t 54 i j x) n := by
  obtain ⟨rn, rc, wk, n1, n2, pp⟩ := h
  have A : ∀ b k l, b ≠ 54 → gA (sA t 54 i j x) b k l = gA t b k l := fun b k l z => by rw [gA_sA, if_neg (fun y => z y.1)]
  refine ⟨rn.tA (by decide), rc, fun k k0 k1 => ?_, n1, n2, fun q hq => ?_⟩
  · rw [A _ _ _ (by decide)]
    exact wk k k0 k1
  · obtain ⟨h1, h2, h3, ⟨k1, k2, k3, k4, k5, k6⟩, h5, h6⟩ := pp q hq
    exact ⟨by rw [A _ _ _ (by decide)]; exact h1, by rw [A _ _ _ (by decide)]; exact h2, by rw [A _ _ _ (by decide)]; exact h3, ⟨by rw [A _ _ _ (by decide)]; exact k1, by rw [A _ _ _ (by decide)]; exact k2, k3, k4, k5, fun j j0 j1 => by rw [A _ _ _ (by decide)]; exact k6 j j0 j1⟩, by rw [A _ _ _ (by decide)]; exact h5, h6⟩
def kiI (s3 : S1) (D n : Nat) (l2 p kv : Int32) (kids : Nat) (res : ((Nat × Nat) ⊕ (Nat × Nat) ⊕ (Nat × Nat) ⊕ (Nat × Nat)) × S1) (y : Int32 × Int32 × Int32 × Int32) (t1 : S1) : Prop := ∃ i : Nat, y = (l2, p, kv, Int32.ofNat i) ∧ i ≤ kids ∧ (FRes res t1 ∨ ∃ (n1 : Nat) (s1 : S1), Rall s1 t1 n1 ∧ n1 ≤ 250 ∧ n < n1 ∧ CLh (D + 1) n1 s1 res ∧ (∀ j : Nat, j < D + 1 → gA s1 109 0 (Int32.ofNat j) = gA s3 109 0 (Int32.ofNat j)) ∧ (∀ j : Nat, j < D → gA s1 110 0 (Int32.ofNat j) = gA s3 110 0 (Int32.ofNat j)) ∧ gA s1 110 0 (Int32.ofNat D) = Int32.ofNat (kids - i))
def Tw5 (k : Nat) : Prop := ∀ (s t : S1) (D n : Nat) (l1 : Int32) (res : ((Nat × Nat) ⊕ (Nat × Nat) ⊕ (Nat × Nat) ⊕ (Nat × Nat)) × S1), Rall s t n → n ≤ 250 → D ≤ 20 → (D = 0 → n = 0 ∧ l1 = -1) → (0 < D → gA s 110 0 (Int32.ofNat (D - 1)) ≠ 0 ∧ l1 = gA s 109 0 (Int32.ofNat (D - 1)) ∧ ∃ a : Nat, a < n ∧ l1 = Int32.ofNat a) → CLh D n s res → hu (M_Mo_proto k l1 (Int32.ofNat (D + 1))) t (fun _ t1 => trO s D n res t1)
/-- the children of one -/
theorem kids2 {k : Nat} (ih : Tw5 k) {s3 t3 : S1} {D n kids : Nat} {kv : Int32} {res : ((Nat × Nat) ⊕ (Nat × Nat) ⊕ (Nat × Nat) ⊕ (Nat × Nat)) × S1} (hk : kv.toInt = kids) (hn : n < 250) (hD : D < 20) (ra : Rall s3 t3 (n + 1)) (cl : CLh (D + 1) (n + 1) s3 res) (op : gA s3 109 0 (Int32.ofNat D) = Int32.ofNat n) (le : gA s3 110 0 (Int32.ofNat D) = kv) :
    hu (oW (M_Mo_proto_L458 (M_Mo_proto k)) (Int32.ofNat (D + 1), Int32.ofNat n, kv, 0)) t3 (fun _ t1 => FRes res t1 ∨ ∃ (n1 : Nat) (s1 : S1), Rall s1 t1 n1 ∧ n1 ≤ 250 ∧ n < n1 ∧ CLh (D + 1) n1 s1 res ∧ (∀ j : Nat, j < D + 1 → gA s1 109 0 (Int32.ofNat j) = gA s3 109 0 (Int32.ofNat j)) ∧ (∀ j : Nat, j < D → gA s1 110 0 (Int32.ofNat j) = gA s3 110 0 (Int32.ofNat j)) ∧ gA s1 110 0 (Int32.ofNat D) = 0) := by
  have kl := Int32.toInt_lt kv
  have ekv : kv = Int32.ofNat kids := of_toInt hk
  refine hu_W (kiI s3 D n (Int32.ofNat (D + 1)) (Int32.ofNat n) kv kids res) ?_ _ t3 ⟨0, rfl, by omega, .inr ⟨n + 1, s3, ra, by omega, by omega, cl, fun _ _ => rfl, fun _ _ => rfl, by rw [le, ekv]; rfl⟩⟩
  rintro y t1 ⟨i, rfl, hi, o⟩
  have oi : (Int32.ofNat i).toInt = (i : Int) := oI (by omega)
  unfold M_Mo_proto_L458
  rw [hu_C]
  refine ⟨fun c => ?_, fun c => ?_⟩
  · rw [hu_R]
    rw [i32_le, oi, hk] at c
    have ei : i = kids := by omega
    rcases o with o | ⟨n1, s1, q1, q2, q3, q4, q5, q6, q7⟩
    · exact .inl o
    · refine .inr ⟨n1, s1, q1, q2, q3, q4, q5, q6, ?_⟩
      rw [q7, ei, Nat.sub_self]
      rfl
  · rw [i32_le, oi, hk] at c
    rw [hu_B, hu_GI, hu_C]
    refine ⟨fun f => ?_, fun f => ?_⟩
    · rcases o with o | ⟨n1, s1, q1, q2, q3, q4, q5, q6, q7⟩
      · exact absurd f o.ne
      have go : ∀ T : S1, Rall s1 T n1 → hu (M_Mo_proto_j505 (M_Mo_proto k) (Int32.ofNat (D + 1)) (Int32.ofNat n) kv (Int32.ofNat i)) T (fun y s' => Sum.elim (fun z => kiI s3 D n (Int32.ofNat (D + 1)) (Int32.ofNat n) kv kids res z s') (fun _ => FRes res s' ∨ ∃ (n1 : Nat) (s1 : S1), Rall s1 s' n1 ∧ n1 ≤ 250 ∧ n < n1 ∧ CLh (D + 1) n1 s1 res ∧ (∀ j : Nat, j < D + 1 → gA s1 109 0 (Int32.ofNat j) = gA s3 109 0 (Int32.ofNat j)) ∧ (∀ j : Nat, j < D → gA s1 110 0 (Int32.ofNat j) = gA s3 110 0 (Int32.ofNat j)) ∧ gA s1 110 0 (Int32.ofNat D) = 0) y) := by
        intro T rT
        unfold M_Mo_proto_j505
        rw [hu_B, ofN1]
        have b := ih s1 T (D + 1) n1 (Int32.ofNat n) res rT q2 (by omega) (fun z => by omega) (fun _ => ⟨?_, ?_, n, q3, rfl⟩) q4
        · refine hu_mono b ?_
          intro _ t2 o2
          rw [hu_R]
          refine ⟨i + 1, by rw [ofN1], by omega, ?_⟩
          rcases o2 with o2 | ⟨n2, s2, w1, w2, w3, w4, w5, w6, w7⟩
          · exact .inl o2
          · refine .inr ⟨n2, s2, w1, w2, by omega, w4, fun j hj => (w5 j hj).trans (q5 j hj), fun j hj => (w6 j (by omega)).trans (q6 j hj), ?_⟩
            have w7 := w7 (by omega)
            rw [Nat.add_sub_cancel] at w7
            rw [w7, q7]
            have : kids - i = (kids - (i + 1)) + 1 := by omega
            rw [this, ← ofN1, Int32.add_sub_cancel]
        · rw [Nat.add_sub_cancel, q7]
          intro z
          have := congrArg Int32.toInt z
          rw [oI (by omega)] at this
          have e0 : (0 : Int32).toInt = 0 := rfl
          omega
        · rw [Nat.add_sub_cancel, q5 D (by omega), op]
      rw [hu_B, hu_AI]
      intro _
      rw [hu_C]
      refine ⟨fun _ => go t1 q1, fun _ => ?_⟩
      rw [hu_B, hu_AI]
      intro _
      rw [hu_B, hu_GI, hu_B, hu_SI]
      intro _
      exact go _ q1.tA
    · rw [hu_R]
      rcases o with o | ⟨n1, s1, q1, -⟩
      · exact .inl o
      · exact absurd q1.1.2.2.2.2.2 f
theorem tree2 : ∀ k, Tw5 k := by
  intro k
  induction k with
  | zero =>
    intro s t D n l1 res _ _ _ _ _ _ a t1 E
    cases E
  | succ k ih =>
    intro s t D n l1 res ra hn hD h0 h1 ⟨d, ln, hDd, hd, hz, Eres⟩
    have hr : ∀ a b, Skk (M_Mo_proto k a b) := skk_Mo_proto k
    obtain ⟨e, s'⟩ := res
    have on : (Int32.ofNat n).toInt = (n : Int) := oI (by omega)
    have oD : (Int32.ofNat D).toInt = (D : Int) := oI (by omega)
    have oD1 : (Int32.ofNat (D + 1)).toInt = ((D + 1 : Nat) : Int) := oI (by omega)
    have e0 : (0 : Int32).toInt = 0 := rfl
    have e20 : (20 : Int32).toInt = 20 := rfl
    have e250 : (250 : Int32).toInt = 250 := rfl
    have f3 : gI t 3 0 = 0 := ra.1.2.2.2.2.2
    have n23 : gI t 23 0 = Int32.ofNat n := ra.2.2.2.2.1
    have wo := wo2 hDd hd hz (fun z => (h1 z).1)
    -- both refuse: too deep
    have deep : ∀ ln : Nat × Nat, hu (M_Mo_proto_j24 (M_Mo_proto k)) t (fun _ t1 => trO s D n (Sum.inr (Sum.inl ln), s) t1) := fun ln => by
      unfold M_Mo_proto_j24 M_Mo_bad
      simp only [hu_B, hu_C, hu_R, hu_GI, hu_PI]
      refine ⟨fun _ => .inl ?_, fun z => absurd f3 z⟩
      show Ff (rfz s 3 0) _
      unfold rfz
      rw [sub05, ra.1.1]
      exact ff_set (by decide)
    suffices H : hu (oW M_Ch_readAll_L9 (Int32.ofNat d, Int32.ofNat n, ln)) s (fun e s' => hu (M_Mo_proto_body (M_Mo_proto k) l1 (Int32.ofNat (D + 1))) t (fun _ t1 => trO s D n (e, s') t1)) from H e s' Eres
    rw [hu_Wu]
    unfold M_Ch_readAll_L9
    rw [hu_C]
    refine ⟨fun c => ?_, fun _ => ?_⟩
    · rw [i32_lt, on, e250] at c
      omega
    rw [hu_B]
    refine hu_mono wo ?_
    rintro v s1 ⟨ev, es⟩
    rw [ev, es]
    have main : hu (M_Ch_readAll_j59 (Int32.ofNat D) (Int32.ofNat n) ln) s (fun y s' => Sum.elim (fun z => hu (oW M_Ch_readAll_L9 z) s' (fun e s' => hu (M_Mo_proto_body (M_Mo_proto k) l1 (Int32.ofNat (D + 1))) t (fun _ t1 => trO s D n (e, s') t1))) (fun e => hu (M_Mo_proto_body (M_Mo_proto k) l1 (Int32.ofNat (D + 1))) t (fun _ t1 => trO s D n (e, s') t1)) y) := by
      unfold M_Ch_readAll_j59
      rw [hu_C]
      refine ⟨fun c => ?_, fun c => ?_⟩
      · rw [hu_R]
        show hu (M_Mo_proto_body (M_Mo_proto k) l1 (Int32.ofNat (D + 1))) t (fun _ t1 => trO s D n (Sum.inr (Sum.inl ln), s) t1)
        unfold M_Mo_proto_body
        rw [hu_B, hu_GI, hu_C]
        refine ⟨fun _ => ?_, fun z => absurd f3 z⟩
        rw [hu_B, hu_GI, n23, hu_C]
        exact ⟨fun _ => deep ln, fun z => absurd c z⟩
      rw [hu_C]
      refine ⟨fun c2 => ?_, fun c2 => ?_⟩
      · rw [hu_R]
        show hu (M_Mo_proto_body (M_Mo_proto k) l1 (Int32.ofNat (D + 1))) t (fun _ t1 => trO s D n (Sum.inr (Sum.inl ln), s) t1)
        unfold M_Mo_proto_body
        rw [hu_B, hu_GI, hu_C]
        refine ⟨fun _ => ?_, fun z => absurd f3 z⟩
        rw [hu_B, hu_GI, n23, hu_C]
        refine ⟨fun _ => deep ln, fun _ => ?_⟩
        rw [hu_C]
        refine ⟨fun z => ?_, fun _ => deep ln⟩
        have c2 := congrArg Int32.toInt c2
        rw [oD, e20] at c2
        rw [i32_le, oD1, e20] at z
        omega
      have n250 : n < 250 := by
        have : n ≠ 250 := fun z => c (by rw [z]; rfl)
        omega
      have D20 : D < 20 := by
        have : D ≠ 20 := fun z => c2 (by rw [z]; rfl)
        omega
      have hl : l1 = -1 ∨ ∃ a : Nat, a < n ∧ l1 = Int32.ofNat a := by
        by_cases z : D = 0
        · exact .inl (h0 z).2
        · exact .inr (h1 (by omega)).2.2
      have body : ∀ P : Unit → S1 → Prop, hu (rH (M_Mo_proto k) l1 (Int32.ofNat (D + 1)) (Int32.ofNat n)) (sI t 23 0 (Int32.ofNat n + 1)) P → hu (M_Mo_proto_body (M_Mo_proto k) l1 (Int32.ofNat (D + 1))) t P := fun P h => by
        unfold M_Mo_proto_body
        rw [hu_B, hu_GI, hu_C]
        refine ⟨fun _ => ?_, fun z => absurd f3 z⟩
        rw [hu_B, hu_GI, n23, hu_C]
        refine ⟨fun z => absurd z c, fun _ => ?_⟩
        rw [hu_C]
        refine ⟨fun _ => ?_, fun z => absurd (by rw [i32_le, oD1, e20]; omega) z⟩
        rw [hu_B, hu_GI, n23, hu_B, hu_PI]
        exact h
      have one : hu (M_Ch_readAll_j100 (Int32.ofNat D) (Int32.ofNat n) ln l1 (Int32.ofNat n)) s (fun y s' => Sum.elim (fun z => hu (oW M_Ch_readAll_L9 z) s' (fun e s' => hu (M_Mo_proto_body (M_Mo_proto k) l1 (Int32.ofNat (D + 1))) t (fun _ t1 => trO s D n (e, s') t1))) (fun e => hu (M_Mo_proto_body (M_Mo_proto k) l1 (Int32.ofNat (D + 1))) t (fun _ t1 => trO s D n (e, s') t1)) y) := by
        unfold M_Ch_readAll_j100
        rw [hu_B]
        intro v s2 E1
        rw [hu_C]
        refine ⟨fun z => ?_, fun z => ?_⟩
        · rw [hu_R]
          show hu (M_Mo_proto_body (M_Mo_proto k) l1 (Int32.ofNat (D + 1))) t (fun _ t1 => trO s D n (Sum.inr (Sum.inr (Sum.inl v.2)), s2) t1)
          refine body _ (hu_mono (pr2 hr (l2 := Int32.ofNat (D + 1)) (Q := fun t1 => trO s D n (Sum.inr (Sum.inr (Sum.inl v.2)), s2) t1) n250 ra hl v s2 E1) fun _ t1 q => q ⟨fun _ t' hf => .inl hf, fun y => absurd z y⟩)
        -- the class goes on
        have go : ∀ S : S1, (∀ f j, gI S f j = gI s2 f j) → (∀ a i j, a ≠ 109 → a ≠ 110 → gA S a i j = gA s2 a i j) → (∀ m, Rall s2 m (n + 1) → Rall S m (n + 1)) → (∀ j : Nat, j < D → gA S 109 0 (Int32.ofNat j) = gA s2 109 0 (Int32.ofNat j)) → gA S 109 0 (Int32.ofNat D) = Int32.ofNat n → gA S 110 0 (Int32.ofNat D) = gI s2 18442 (Int32.ofNat n) → (∀ j : Nat, j + 1 < D → gA S 110 0 (Int32.ofNat j) = gA s2 110 0 (Int32.ofNat j)) → (0 < D → gA S 110 0 (Int32.ofNat (D - 1)) = gA s2 110 0 (Int32.ofNat (D - 1)) - 1) → hu (oW M_Ch_readAll_L9 (Int32.ofNat D + 1, Int32.ofNat n + 1, v.2)) S (fun e s' => hu (M_Mo_proto_body (M_Mo_proto k) l1 (Int32.ofNat (D + 1))) t (fun _ t1 => trO s D n (e, s') t1)) := by
          intro S _ _ rS o1 o2 o3 o4 o5 e s' E3
          refine body _ (hu_mono (pr2 hr (l2 := Int32.ofNat (D + 1)) (Q := fun t1 => trO s D n (e, s') t1) n250 ra hl v s2 E1) fun _ t1 q => q ⟨fun y => absurd y z, fun _ t' rall fss kp => ?_⟩)
          rw [hu_B]
          rw [ofN1, ofN1] at E3
          have ek : (gI s2 18442 (Int32.ofNat n)).toInt = ((gI s2 18442 (Int32.ofNat n)).toInt.toNat : Int) := by omega
          refine hu_mono (kids2 ih ek n250 D20 (rS t' rall) ⟨D + 1, v.2, Nat.le_refl _, by omega, fun j a b => by omega, E3⟩ o2 o3) ?_
          intro _ t2 o
          rw [hu_R]
          rcases o with o | ⟨n1, s1, q1, q2, q3, ⟨d1, ln1, c1, c2, c3, c4⟩, q5, q6, q7⟩
          · exact .inl o
          · refine .inr ⟨n1, s1, q1, q2, q3, ⟨d1, ln1, by omega, c2, fun j a b => ?_, c4⟩, fun j hj => ?_, fun j hj => ?_, fun hp => ?_⟩
            · by_cases ej : j = D
              · rw [ej, q7]
              · exact c3 j (by omega) b
            · rw [q5 j (by omega), o1 j hj, fss.2.1]
            · rw [q6 j (by omega), o4 j hj, fss.2.2]
            · rw [q6 (D - 1) (by omega), o5 hp, fss.2.2]
        rw [hu_C]
        refine ⟨fun z0 => ?_, fun z0 => ?_⟩
        · rw [i32_le, oD, e0] at z0
          have D0 : D = 0 := by omega
          unfold M_Ch_readAll_j124
          rw [hu_B, hu_SI]
          intro _
          rw [hu_B, hu_Pz]
          intro _
          rw [hu_B, hu_GI, hu_B, hu_SI]
          intro _
          rw [hu_R]
          refine go _ (fun _ _ => rfl) (fun a i j x y => ?_) (fun m r => (r.wA (.inl rfl)).wA (.inr rfl)) (fun j hj => by omega) ?_ ?_ (fun j hj => by omega) (fun hp => by omega)
          · rw [gA_sA, if_neg (fun w => y w.1), gA_sA, if_neg (fun w => x w.1)]
          · rw [gA_sA, if_neg (fun w => absurd w.1 (by decide)), gA_sA, if_pos ⟨rfl, rfl, rfl⟩]
          · rw [gA_sA, if_pos ⟨rfl, rfl, rfl⟩]
            rfl
        · rw [i32_le, oD, e0] at z0
          have Dp : 0 < D := by omega
          have em : Int32.ofNat D - 1 = Int32.ofNat (D - 1) := by
            obtain ⟨-, -, m3⟩ := ym oD Dp (by omega)
            exact of_toInt m3
          have nD : ∀ j : Nat, j < D → Int32.ofNat j ≠ Int32.ofNat D := fun j hj y => by
            have := oinj (by omega) (by omega) y
            omega
          rw [em, hu_B, hu_AI]
          intro _
          rw [hu_B, hu_SI]
          intro _
          unfold M_Ch_readAll_j124
          rw [hu_B, hu_SI]
          intro _
          rw [hu_B, hu_Pz]
          intro _
          rw [hu_B, hu_GI, hu_B, hu_SI]
          intro _
          rw [hu_R]
          refine go _ (fun _ _ => rfl) (fun a i j x y => ?_) (fun m r => ((r.wA (.inr rfl)).wA (.inl rfl)).wA (.inr rfl)) (fun j hj => ?_) ?_ ?_ (fun j hj => ?_) (fun hp => ?_)
          · rw [gA_sA, if_neg (fun w => y w.1), gA_sA, if_neg (fun w => x w.1), gA_sA, if_neg (fun w => y w.1)]
          · rw [gA_sA, if_neg (fun w => absurd w.1 (by decide)), gA_sA, if_neg (fun w => nD j hj w.2.2), gA_sA, if_neg (fun w => absurd w.1 (by decide))]
          · rw [gA_sA, if_neg (fun w => absurd w.1 (by decide)), gA_sA, if_pos ⟨rfl, rfl, rfl⟩]
          · rw [gA_sA, if_pos ⟨rfl, rfl, rfl⟩]
            rfl
          · rw [gA_sA, if_neg (fun w => nD j (by omega) w.2.2), gA_sA, if_neg (fun w => absurd w.1 (by decide)), gA_sA, if_neg (fun w => by have := oinj (by omega) (by omega) w.2.2; omega)]
          · rw [gA_sA, if_neg (fun w => nD _ (by omega) w.2.2), gA_sA, if_neg (fun w => absurd w.1 (by decide)), gA_sA, if_pos ⟨rfl, rfl, rfl⟩]
      rw [hu_C]
      refine ⟨fun z0 => ?_, fun z0 => ?_⟩
      · have D0 : D = 0 := by
          have z0 := congrArg Int32.toInt z0
          rw [oD, e0] at z0
          omega
        have w := one
        rw [(h0 D0).2] at w
        have h2 := (h0 D0).2
        rw [h2]
        exact w
      · have Dp : 0 < D := by
          have : D ≠ 0 := fun y => z0 (by rw [y]; rfl)
          omega
        have em : Int32.ofNat D - 1 = Int32.ofNat (D - 1) := by
          obtain ⟨-, -, m3⟩ := ym oD Dp (by omega)
          exact of_toInt m3
        rw [hu_B, hu_AI]
        intro _
        rw [em, ← (h1 Dp).2.1]
        exact one
    rw [hu_C]
    refine ⟨fun _ => main, fun c => ?_⟩
    rw [hu_C]
    refine ⟨fun z => ?_, fun _ => main⟩
    have z := congrArg Int32.toInt z
    rw [oD, e0] at z
    rw [i32_le, on, e0] at c
    have := (h0 (by omega)).1
    omega
