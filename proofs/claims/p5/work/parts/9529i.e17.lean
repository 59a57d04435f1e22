/-! Both tapes: the same bytes are fed. -/
def fb (v : Int32) (r : Nat) : Int32 := ((iushr v (Int32.ofNat (24 - 8 * r))).toInt8.toInt32).toInt8.toInt32
theorem sh8 (w : Int32) (n : Nat) (hn : n + 8 ≤ 32) : (BitVec.sshiftRight w.toBitVec n).setWidth 8 = (w.toBitVec >>> n).setWidth 8 := by
  apply BitVec.eq_of_getLsbD_eq
  intro i hi
  rw [BitVec.getLsbD_setWidth, BitVec.getLsbD_setWidth, BitVec.getLsbD_sshiftRight, BitVec.getLsbD_ushiftRight]
  have h1 : ¬ 32 ≤ i := by omega
  have h2 : n + i < 32 := by omega
  simp [h1, h2]
theorem byt {v : Int32} {r : Nat} (hr : r < 4) : (((v >>> (Int32.ofNat (24 - 8 * r) &&& 31)).toInt8.toInt32).toInt8.toInt32) = fb v r := by
  have e : (v >>> (Int32.ofNat (24 - 8 * r) &&& 31)).toInt8 = (iushr v (Int32.ofNat (24 - 8 * r))).toInt8 := by
    apply Int8.toBitVec_inj.1
    rw [Int32.toBitVec_toInt8, Int32.toBitVec_toInt8, BitVec.signExtend_eq_setWidth_of_le _ (by decide), BitVec.signExtend_eq_setWidth_of_le _ (by decide)]
    have c : r = 0 ∨ r = 1 ∨ r = 2 ∨ r = 3 := by omega
    rcases c with rfl | rfl | rfl | rfl
    · exact sh8 v 24 (by decide)
    · exact sh8 v 16 (by decide)
    · exact sh8 v 8 (by decide)
    · exact sh8 v 0 (by decide)
  unfold fb
  rw [e]
def ptP (s : S1) (v : Int32) (t : S1) : Prop := gI t 12800 0 = gI s 12800 0 + 4 ∧ (∀ j : Int32, j.toInt < (gI s 12800 0).toInt → gA t 108 0 j = gA s 108 0 j) ∧ ∀ k : Nat, k < 4 → gA t 108 0 (gI s 12800 0 + Int32.ofNat k) = fb v k
theorem put2 {s : S1} {v : Int32} (h0 : 0 ≤ (gI s 12800 0).toInt) (h1 : (gI s 12800 0).toInt + 4 ≤ 65536) : hu (M_LM_putOnTape v) s (fun _ t => ptP s v t) := by
  have e0 : (0 : Int32).toInt = 0 := rfl
  have e1 : (1 : Int32).toInt = 1 := rfl
  have sh : ∀ k : Nat, k < 5 → (k < 4 ↔ ¬ (24 - 8 * Int32.ofNat k : Int32) < 0) := by decide
  have nx : ∀ k : Nat, k < 4 → (24 - 8 * Int32.ofNat k : Int32) + -8 = 24 - 8 * Int32.ofNat (k + 1) := by decide
  have am : ∀ k : Nat, k < 4 → (24 - 8 * Int32.ofNat k : Int32) = Int32.ofNat (24 - 8 * k) := by decide
  unfold M_LM_putOnTape
  rw [hu_B]
  refine hu_mono (P := fun _ t => ptP s v t) ?_ (fun _ _ q => (hu_R _ _ _).2 q)
  refine hu_W (fun y t => ∃ k : Nat, k ≤ 4 ∧ y = (v, 24 - 8 * Int32.ofNat k) ∧ gI t 12800 0 = gI s 12800 0 + Int32.ofNat k ∧ (∀ j : Int32, j.toInt < (gI s 12800 0).toInt → gA t 108 0 j = gA s 108 0 j) ∧ ∀ i : Nat, i < k → gA t 108 0 (gI s 12800 0 + Int32.ofNat i) = fb v i) ?_ _ s ⟨0, by omega, rfl, (Int32.add_zero _).symm, fun _ _ => rfl, fun i hi => by omega⟩
  rintro y t ⟨k, hk, rfl, hl, lo, up⟩
  unfold M_LM_putOnTape_L3
  rw [hu_C]
  refine ⟨fun c => ?_, fun c => ?_⟩
  · have k4 : k = 4 := by
      have := (sh k (by omega)).1
      by_cases z : k < 4
      · exact absurd c (this z)
      · omega
    rw [hu_R]
    rw [k4] at hl up
    exact ⟨hl, lo, up⟩
  · have k4 : k < 4 := (sh k (by omega)).2 c
    rw [hu_B, hu_GI, hu_B, hu_SI]
    intro _
    rw [hu_B, hu_GI, hu_B, hu_PI, hu_R]
    have ad : ∀ i : Nat, i < 5 → (gI s 12800 0 + Int32.ofNat i).toInt = (gI s 12800 0).toInt + i := fun i hi => by
      rw [ktI_add, oI (by omega)]
      rw [oI (by omega)]
      omega
    refine ⟨k + 1, by omega, by rw [nx k k4], ?_, fun j hj => ?_, fun i hi => ?_⟩
    · rw [gI_sI, if_pos ⟨rfl, rfl⟩]
      show gI t 12800 0 + 1 = _
      rw [hl, Int32.add_assoc, ofN1]
    · show gA (sA t 108 0 (gI t 12800 0) _) 108 0 j = _
      rw [gA_sA, if_neg (fun z => ?_)]
      · exact lo j hj
      · have w := ad k (by omega)
        rw [z.2.2, hl] at hj
        omega
    · show gA (sA t 108 0 (gI t 12800 0) _) 108 0 _ = _
      rw [gA_sA, hl]
      by_cases ei : i = k
      · rw [if_pos ⟨rfl, rfl, by rw [ei]⟩, am k k4, byt k4, ei]
      · rw [if_neg (fun z => ?_)]
        · exact up i (by omega)
        · have a1 := ad i (by omega)
          have a2 := ad k (by omega)
          have a3 := congrArg Int32.toInt z.2.2
          omega
def ar5 (a b c d e : Int32) (q : Nat) : Int32 := if q = 0 then a else if q = 1 then b else if q = 2 then c else if q = 3 then d else e
def fdB (L : Int32) (a b c d e : Int32) (g0 g : Int32 → Int32) : Prop := (∀ j : Int32, j.toInt < L.toInt → g j = g0 j) ∧ ∀ k : Nat, k < 20 → g (L + Int32.ofNat k) = fb (ar5 a b c d e (k / 4)) (k % 4)
theorem xfeedB {s : S1} (h0 : 0 ≤ (gI s 12800 0).toInt) (big : (gI s 12800 0).toInt ≤ 65536) (a b c d e : Int32) : hu (X_feed a b c d e) s (fun r t => ∀ v, r = .inr v → fdB (gI s 12800 0) a b c d e (fun j => gA s 108 0 j) (fun j => gA t 108 0 j)) := by
  have e20 : (20 : Int32).toInt = 20 := rfl
  have e6 : (65536 : Int32).toInt = 65536 := rfl
  have e4 : (4 : Int32).toInt = 4 := rfl
  have lt := Int32.toInt_lt (gI s 12800 0)
  unfold X_feed
  rw [hu_B, hu_GI, hu_C]
  refine ⟨fun c1 => ?_, fun _ => ?_⟩
  · have ea : (gI s 12800 0 + 20).toInt = (gI s 12800 0).toInt + 20 := by rw [ktI_add, e20]; rw [e20]; omega
    rw [i32_le, ea, e6] at c1
    have st : ∀ {u t : S1} {v : Int32} {k : Nat}, gI u 12800 0 = gI s 12800 0 + Int32.ofNat k → k ≤ 16 → ptP u v t → gI t 12800 0 = gI s 12800 0 + Int32.ofNat (k + 4) ∧ (gI u 12800 0).toInt = (gI s 12800 0).toInt + k := fun {u t v k} eu hk q => by
      refine ⟨?_, ?_⟩
      · rw [q.1, eu, Int32.add_assoc]
        congr 1
        exact (Int32.ofNat_add k 4).symm
      · rw [eu, ktI_add, oI (by omega)]
        rw [oI (by omega)]
        omega
    rw [hu_B]
    refine hu_mono (put2 h0 (by omega)) fun _ t1 q1 => ?_
    obtain ⟨l1, m1⟩ := st (k := 0) (Int32.add_zero _).symm (by omega) q1
    have n1 : (gI t1 12800 0).toInt = (gI s 12800 0).toInt + 4 := by rw [l1, ktI_add, oI (by omega)]; rfl; rw [oI (by omega)]; omega
    rw [hu_B]
    refine hu_mono (put2 (by omega) (by omega)) fun _ t2 q2 => ?_
    obtain ⟨l2, m2⟩ := st l1 (by omega) q2
    have n2 : (gI t2 12800 0).toInt = (gI s 12800 0).toInt + 8 := by rw [l2, ktI_add, oI (by omega)]; rfl; rw [oI (by omega)]; omega
    rw [hu_B]
    refine hu_mono (put2 (by omega) (by omega)) fun _ t3 q3 => ?_
    obtain ⟨l3, m3⟩ := st l2 (by omega) q3
    have n3 : (gI t3 12800 0).toInt = (gI s 12800 0).toInt + 12 := by rw [l3, ktI_add, oI (by omega)]; rfl; rw [oI (by omega)]; omega
    rw [hu_B]
    refine hu_mono (put2 (by omega) (by omega)) fun _ t4 q4 => ?_
    obtain ⟨l4, m4⟩ := st l3 (by omega) q4
    have n4 : (gI t4 12800 0).toInt = (gI s 12800 0).toInt + 16 := by rw [l4, ktI_add, oI (by omega)]; rfl; rw [oI (by omega)]; omega
    rw [hu_B]
    refine hu_mono (put2 (by omega) (by omega)) fun _ t5 q5 => ?_
    rw [hu_B, hu_GI, hu_R]
    intro _ _
    have ad : ∀ i : Nat, i < 21 → (gI s 12800 0 + Int32.ofNat i).toInt = (gI s 12800 0).toInt + i := fun i hi => by
      rw [ktI_add, oI (by omega)]
      rw [oI (by omega)]
      omega
    refine ⟨fun j hj => ?_, fun k hk => ?_⟩
    · show gA t5 108 0 j = gA s 108 0 j
      rw [q5.2.1 j (by omega), q4.2.1 j (by omega), q3.2.1 j (by omega), q2.2.1 j (by omega), q1.2.1 j hj]
    · show gA t5 108 0 (gI s 12800 0 + Int32.ofNat k) = _
      have ak := ad k (by omega)
      have spl : ∀ (q : Nat), k / 4 = q → gI s 12800 0 + Int32.ofNat k = (gI s 12800 0 + Int32.ofNat (4 * q)) + Int32.ofNat (k % 4) := fun q hq => by
        rw [Int32.add_assoc, ← Int32.ofNat_add]
        congr 2
        omega
      have c5 : k / 4 = 0 ∨ k / 4 = 1 ∨ k / 4 = 2 ∨ k / 4 = 3 ∨ k / 4 = 4 := by omega
      rcases c5 with z | z | z | z | z
      · rw [q5.2.1 _ (by omega), q4.2.1 _ (by omega), q3.2.1 _ (by omega), q2.2.1 _ (by omega), spl 0 z, z]
        have w := q1.2.2 (k % 4) (by omega)
        show gA t1 108 0 (gI s 12800 0 + 0 + _) = _
        rw [Int32.add_zero]
        exact w
      · rw [q5.2.1 _ (by omega), q4.2.1 _ (by omega), q3.2.1 _ (by omega), spl 1 z, z]
        have w := q2.2.2 (k % 4) (by omega)
        rw [l1] at w
        exact w
      · rw [q5.2.1 _ (by omega), q4.2.1 _ (by omega), spl 2 z, z]
        have w := q3.2.2 (k % 4) (by omega)
        rw [l2] at w
        exact w
      · rw [q5.2.1 _ (by omega), spl 3 z, z]
        have w := q4.2.2 (k % 4) (by omega)
        rw [l3] at w
        exact w
      · rw [spl 4 z, z]
        have w := q5.2.2 (k % 4) (by omega)
        rw [l4] at w
        exact w
  · rw [hu_R]
    intro v z
    cases z
theorem rfeedB {u : S1} {m : Nat × Nat} (h0 : 0 ≤ (gI u 1 0).toInt) (h1 : (gI u 1 0).toInt ≤ 65516) : hu (oW M_Mo_feed_L60 (0, 0, m)) u (fun _ t => (∀ j : Int32, j.toInt < (gI u 1 0).toInt → gA t 41 0 j = gA u 41 0 j) ∧ ∀ k : Nat, k < 20 → gA t 41 0 (gI u 1 0 + Int32.ofNat k) = fb (gA u 94 0 (Int32.ofNat (k / 4))) (k % 4)) := by
  have dv : ∀ k : Nat, k < 20 → Int32.ofNat k / 4 = Int32.ofNat (k / 4) := by decide
  have sh : ∀ k : Nat, k < 20 → (24 - (8 * (Int32.ofNat k - Int32.ofNat k / 4 * 4)) : Int32) = Int32.ofNat (24 - 8 * (k % 4)) := by decide
  have e20 : (20 : Int32).toInt = 20 := rfl
  refine hu_W (fun y t => ∃ k : Nat, k ≤ 20 ∧ y.1 = 0 ∧ y.2.1 = Int32.ofNat k ∧ gI t 1 0 = gI u 1 0 + Int32.ofNat k ∧ (∀ j, gA t 94 0 j = gA u 94 0 j) ∧ (∀ j : Int32, j.toInt < (gI u 1 0).toInt → gA t 41 0 j = gA u 41 0 j) ∧ ∀ i : Nat, i < k → gA t 41 0 (gI u 1 0 + Int32.ofNat i) = fb (gA u 94 0 (Int32.ofNat (i / 4))) (i % 4)) ?_ _ u ⟨0, by omega, rfl, rfl, (Int32.add_zero _).symm, fun _ => rfl, fun _ _ => rfl, fun i hi => by omega⟩
  rintro ⟨y1, y2, y3⟩ t ⟨k, hk, ey1, ey2, hl, fv, lo, up⟩
  dsimp only at ey1 ey2
  rw [ey1, ey2]
  have ok : (Int32.ofNat k).toInt = (k : Int) := oI (by omega)
  unfold M_Mo_feed_L60
  rw [hu_C]
  refine ⟨fun c => ?_, fun c => ?_⟩
  · rw [i32_le, e20, ok] at c
    rw [hu_R]
    have : k = 20 := by omega
    rw [this] at up
    exact ⟨lo, up⟩
  · rw [i32_le, e20, ok] at c
    have k20 : k < 20 := by omega
    rw [hu_B, hu_GI, hu_B, hu_PI, hu_B, hu_AI]
    intro _
    rw [hu_B, hu_SI]
    intro _
    rw [hu_R]
    have ad : ∀ i : Nat, i < 21 → (gI u 1 0 + Int32.ofNat i).toInt = (gI u 1 0).toInt + i := fun i hi => by
      rw [ktI_add, oI (by omega)]
      rw [oI (by omega)]
      omega
    refine ⟨k + 1, by omega, rfl, ofN1 k, ?_, fun j => ?_, fun j hj => ?_, fun i hi => ?_⟩
    · show gI (sI t 1 0 (gI t 1 0 + 1)) 1 0 = _
      rw [gI_sI, if_pos ⟨rfl, rfl⟩, hl, Int32.add_assoc, ofN1]
    · show gA (sA (sI t 1 0 _) 41 0 _ _) 94 0 j = _
      rw [gA_sA, if_neg (fun z => absurd z.1 (by decide))]
      exact fv j
    · show gA (sA (sI t 1 0 _) 41 0 (gI t 1 0) _) 41 0 j = _
      rw [gA_sA, if_neg (fun z => ?_)]
      · exact lo j hj
      · have w := ad k (by omega)
        rw [z.2.2, hl] at hj
        omega
    · show gA (sA (sI t 1 0 _) 41 0 (gI t 1 0) _) 41 0 _ = _
      rw [gA_sA, hl]
      by_cases ei : i = k
      · rw [if_pos ⟨rfl, rfl, by rw [ei]⟩, ei, sh k k20, dv k k20]
        show ((iushr (gA (sI t 1 0 _) 94 0 (Int32.ofNat (k / 4))) (Int32.ofNat (24 - 8 * (k % 4)))).toInt8.toInt32).toInt8.toInt32 = _
        have w : ∀ x, gA (sI t 1 0 x) 94 0 (Int32.ofNat (k / 4)) = gA u 94 0 (Int32.ofNat (k / 4)) := fun x => fv _
        rw [w]
        rfl
      · rw [if_neg (fun z => ?_)]
        · exact up i (by omega)
        · have a1 := ad i (by omega)
          have a2 := ad k (by omega)
          have a3 := congrArg Int32.toInt z.2.2
          omega
theorem mfeedB {s : S1} {m : Nat × Nat} (h0 : 0 ≤ (gI s 1 0).toInt) (a b c d e : Int32) : hu (M_Mo_feed m a b c d e) s (fun _ t => (gI t 2 0 = 0 → fdB (gI s 1 0) a b c d e (fun j => gA s 41 0 j) (fun j => gA t 41 0 j)) ∧ (gI t 2 0 = 1 → ∀ j, gA t 41 0 j = gA s 41 0 j)) := by
  have e6 : (65516 : Int32).toInt = 65516 := rfl
  have I1 : gI (sI s 2 0 0) 1 0 = gI s 1 0 := by rw [gI_sI, if_neg (fun z => absurd z.1 (by decide))]
  unfold M_Mo_feed
  rw [hu_B, hu_PI, hu_B, hu_GI, I1, hu_C]
  refine ⟨fun c1 => ?_, fun c1 => ?_⟩
  · rw [i32_le, e6] at c1
    simp only [M_Mo_feed_j22, M_Mo_refuse, hu_B, hu_C, hu_GI, hu_PI, hu_R, hu_K, hu_Nw, hu_St, hu_SI]
    refine ⟨fun _ _ => ⟨fun _ _ _ _ _ _ _ => ?_, fun z => absurd trivial z⟩, fun z => absurd trivial z⟩
    have key : ∀ u : S1, gI u 1 0 = gI s 1 0 → gI u 2 0 = 0 → (∀ j, gA u 41 0 j = gA s 41 0 j) → (∀ q : Nat, q < 5 → gA u 94 0 (Int32.ofNat q) = ar5 a b c d e q) → ∀ m', hu (oW M_Mo_feed_L60 (0, 0, m')) u (fun _ t => (gI t 2 0 = 0 → fdB (gI s 1 0) a b c d e (fun j => gA s 41 0 j) (fun j => gA t 41 0 j)) ∧ (gI t 2 0 = 1 → ∀ j, gA t 41 0 j = gA s 41 0 j)) := fun u u1 u0 u2 u3 m' => by
      refine hu_mono (P := fun _ t => ((∀ j : Int32, j.toInt < (gI u 1 0).toInt → gA t 41 0 j = gA u 41 0 j) ∧ ∀ k : Nat, k < 20 → gA t 41 0 (gI u 1 0 + Int32.ofNat k) = fb (gA u 94 0 (Int32.ofNat (k / 4))) (k % 4)) ∧ gI t 2 0 = gI u 2 0) (fun a t E => ⟨rfeedB (by rw [u1]; exact h0) (by rw [u1]; exact c1) a t E, fk2_feedL _ u a t E⟩) ?_
      rintro r w ⟨⟨w1, w2⟩, w3⟩
      rw [u1] at w1 w2
      refine ⟨fun _ => ⟨fun j hj => (w1 j hj).trans (u2 j), fun k hk => ?_⟩, fun z => ?_⟩
      · show gA w 41 0 _ = _
        rw [w2 k hk, u3 (k / 4) (by omega)]
      · rw [w3, u0] at z
        exact absurd z (by decide)
    refine key _ ?_ ?_ (fun j => ?_) (fun q hq => ?_) _
    · show gI (nwR (sI s 2 0 0) 94 0 (5 : Int32).toNatClampNeg) 1 0 = _
      rw [gI_nwR, if_neg (fun z => by omega), if_neg (fun z => by omega), I1]
    · show gI (nwR (sI s 2 0 0) 94 0 (5 : Int32).toNatClampNeg) 2 0 = _
      rw [gI_nwR, if_neg (fun z => by omega), if_neg (fun z => by omega), gI_sI, if_pos ⟨rfl, rfl⟩]
    · simp only [gA_sA]
      rw [if_neg (fun z => absurd z.1 (by decide)), if_neg (fun z => absurd z.1 (by decide)), if_neg (fun z => absurd z.1 (by decide)), if_neg (fun z => absurd z.1 (by decide)), if_neg (fun z => absurd z.1 (by decide)), gA_nwR, if_neg (fun z => absurd z.1 (by decide))]
      rfl
    · have c5 : q = 0 ∨ q = 1 ∨ q = 2 ∨ q = 3 ∨ q = 4 := by omega
      unfold ar5
      rcases c5 with rfl | rfl | rfl | rfl | rfl <;> simp only [gA_sA] <;> simp
  · rw [i32_le, e6] at c1
    simp only [M_Mo_feed_j22, M_Mo_refuse, hu_B, hu_C, hu_GI, hu_PI, hu_R, hu_K]
    refine ⟨fun z => absurd z (by decide), fun _ _ => ⟨fun z => absurd z (by decide), fun _ => ⟨fun z => ?_, fun _ _ => rfl⟩⟩⟩
    rw [gI_sI, if_pos ⟨rfl, rfl⟩] at z
    exact absurd z (by decide)
