/-! The class: the number behind a frame pushed, a coroutine made; its bound. -/
theorem fI {c : Int32} {j : Nat} (hj : j < 200) : 0 ≤ Int32.ofNat j ∧ Int32.ofNat j < 200 := by
  have e : (Int32.ofNat j).toInt = j := ofNat_toInt (by omega)
  have e0 : (0 : Int32).toInt = 0 := rfl
  have e2 : (200 : Int32).toInt = 200 := rfl
  exact ⟨by rw [i32_le]; omega, by rw [i32_lt]; omega⟩
theorem cHI.dn {s : S1} (H : cHI s) {c : Int32} (hc : 0 ≤ c ∧ c < 32) (a : iU s c) : (oD s c).toNatClampNeg ≤ 200 := by
  have d := (H.dep (c := c) ⟨⟨hc, a.1⟩, a.2⟩).2.1
  have := clampI d.1
  omega
theorem psQ.oM {s t : S1} {n : Nat × Nat} {k fn : Int32} (W : cW s n) (h : psQ s (mCur s) k fn 0 t) (k0 : k ≠ 0) : Om t ≤ Om s + 4 := by
  obtain ⟨⟨d1, -⟩, I, -, T2⟩ := h
  have ac := W.cur
  have hc := ac.1.1
  obtain ⟨-, dD, -⟩ := W.hi.dep ac
  have e0 : (0 : Int32).toInt = 0 := rfl
  have e1 : (1 : Int32).toInt = 1 := rfl
  have e200 : (200 : Int32).toInt = 200 := rfl
  have g : ∀ f j, f ≠ 18948 ∧ f ≠ 18949 → (f / 128 = 152 → j ≠ mCur s * 200 + oD s (mCur s)) → gI t f j = gI s f j := fun f j q r => by
    rw [I, if_neg (fun z => q.1 z.1), if_neg (fun z => q.2 z.1), if_neg (fun z => r (by omega) z.2), if_neg (fun z => r (by omega) z.2), if_neg (fun z => r (by omega) z.2), if_neg (fun z => r (by omega) z.2), if_neg (fun z => r (by omega) z.2), if_neg (fun z => r (by omega) z.2)]
  have dt : ∀ d, d ≠ mCur s → oD t d = oD s d := fun d q => by
    show gI t 18948 d = _
    rw [I, if_neg (fun z => q z.2), if_neg (fun z => absurd z.1 (by decide)), if_neg (fun z => absurd z.1 (by decide)), if_neg (fun z => absurd z.1 (by decide)), if_neg (fun z => absurd z.1 (by decide)), if_neg (fun z => absurd z.1 (by decide)), if_neg (fun z => absurd z.1 (by decide)), if_neg (fun z => absurd z.1 (by decide))]
  have dc : oD t (mCur s) = oD s (mCur s) + 1 := by
    show gI t 18948 (mCur s) = _
    rw [I, if_pos ⟨rfl, rfl⟩]
  have wh : fWh t (mCur s * 200 + oD s (mCur s)) = k := by
    show gI t 19456 _ = _
    rw [I, if_neg (fun z => absurd z.1 (by decide)), if_neg (fun z => absurd z.1 (by decide)), if_neg (fun z => absurd z.1 (by decide)), if_neg (fun z => absurd z.1 (by decide)), if_neg (fun z => absurd z.1 (by decide)), if_neg (fun z => absurd z.1 (by decide)), if_neg (fun z => absurd z.1 (by decide)), if_pos ⟨rfl, rfl⟩]
  have A : ∀ i j, gA t 104 i j = gA s 104 i j := fun i j => by
    show t.2.2.1 _ _ _ = s.2.2.1 _ _ _
    rw [T2]
  have jE : ∀ f, f ≠ mCur s * 200 + oD s (mCur s) → jf t f = jf s f := fun f q => jf_eq (g _ _ (by decide) (fun _ => q)) (g _ _ (by decide) (fun _ => q)) (g _ _ (by decide) (fun _ => q)) (g _ _ (by decide) (fun _ => q)) (fun k j r => g k j (by omega) (fun z => by omega)) A
  have iu : ∀ d, iU t d → iU s d := fun d a => ⟨(g 19071 d (by decide) (fun z => absurd z (by decide))).symm.trans a.1, by rw [show oSl s d = oSl t d from (g _ _ (by decide) (fun z => absurd z (by decide))).symm]; exact a.2⟩
  have bg : ∀ d, gI t 18952 d = gI s 18952 d := fun d => g _ _ (by decide) (fun z => absurd z (by decide))
  have dn : 0 ≤ oD s (mCur s) ∧ oD s (mCur s) < 200 := ⟨by rw [i32_le]; omega, by rw [i32_lt]; omega⟩
  show Om t + 0 ≤ Om s + 4
  refine Om_one hc (fun d hd q => (om_le fun a => ⟨iu d a, .inl (bg d), by rw [dt d q]; exact Nat.le_refl _, fun j hj => jE _ ?_⟩).1) ?_
  · have := W.hi.dn hd (iu d a)
    rw [dt d q] at hj
    exact fm_ne hd hc (fI (c := d) (by omega)) dn q
  · by_cases a : iU t (mCur s)
    · have b := iu _ a
      have c1 := clampI dD.1
      have ed : (oD s (mCur s) + 1).toInt = (oD s (mCur s)).toInt + 1 := by rw [ktI_add] <;> omega
      have c2 := clampI (x := oD s (mCur s) + 1) (by omega)
      have en : (oD s (mCur s) + 1).toNatClampNeg = (oD s (mCur s)).toNatClampNeg + 1 := by omega
      have e3 : Int32.ofNat (oD s (mCur s)).toNatClampNeg = oD s (mCur s) := ofNat_clamp dn.1
      have j : jS t (mCur s) = jS s (mCur s) := by
        unfold jS
        rw [dc, en]
        show sg _ (oD s (mCur s)).toNatClampNeg + jf t (mCur s * 200 + Int32.ofNat (oD s (mCur s)).toNatClampNeg) = _
        rw [e3, jf_0 (by rw [wh]; exact k0)]
        refine sg_eq _ fun i hi => jE _ (fun z => ?_)
        have := fm_inj1 hc (fI (c := mCur s) (j := i) (by omega)) dn z
        have e2 := congrArg Int32.toInt this
        have e : (Int32.ofNat i).toInt = i := ofNat_toInt (by omega)
        omega
      rw [om_u a, om_u b, dc, en, bg, j]
      omega
    · rw [om_n a]
      omega
theorem cGc.kor {s t : S1} (g : cGc s t) : Kor true true s t := ⟨fun f i q => g.1 f i (by unfold foI at q; omega), fun i j => g.2.2.1 _ _ _ (by decide), g.2.2.2.2.2.2.2.1, fun i => .inl (g.1 _ _ (by decide)), fun _ => g.1 _ _ (by decide), fun _ => g.1 _ _ (by decide)⟩
theorem cMg.kor {s t : S1} (g : cMg s t) : Kor true true s t := by
  rcases g with z | z
  · rw [z]
    exact Kor.refl _ _ _
  · exact z.2.kor
/-- a coroutine may have been made -/
theorem coQ.oM {s t : S1} {v : Int64} {r : Int32 × (Nat × Nat)} (h : coQ s (0, 0) v r t) : Om t ≤ Om s + 1200 := by
  obtain ⟨s0, g, h0, -, -, w | ⟨-, -, c, w3, w4⟩⟩ := h
  · rw [w.2]
    have := g.kor.oM
    omega
  · have m := g.kor.oM
    obtain ⟨n1, n2, nI, -, nA, -, n7⟩ := w3
    obtain ⟨hc, hcs, i1, i2, i3, i4, i5, i6, i7, i8, i9, i10⟩ := w4
    have gg : ∀ f j, 148 ≤ f / 128 ∧ f / 128 ≤ 151 → j ≠ c → gI t f j = gI s0 f j := fun f j q r => nI f j (by omega) (fun z => by omega) (fun _ => r) (fun z => by omega)
    have gp : ∀ f j, f / 128 = 144 → gI t f j = gI s0 f j := fun f j q => nI f j (by omega) (fun z => by omega) (fun z => by omega) (fun z => by omega)
    have A : ∀ i j, gA t 104 i j = gA s0 104 i j := fun i j => nA 104 i j (by decide) (fun z => absurd z (by decide))
    have iu : ∀ d, d ≠ c → iU t d → iU s0 d := fun d q a => ⟨(gg 19071 d (by decide) q).symm.trans a.1, by rw [show oSl s0 d = oSl t d from (gg _ _ (by decide) q).symm]; exact a.2⟩
    have key : Om t + 0 ≤ Om s0 + 1200 := by
      refine Om_one hc (fun d hd q => (om_le fun a => ⟨iu d q a, .inl (gg _ _ (by decide) q), by rw [show oD t d = oD s0 d from gg _ _ (by decide) q]; exact Nat.le_refl _, fun j hj => ?_⟩).1) ?_
      · have dn := h0.1.dn hd (iu d q a)
        rw [show oD t d = oD s0 d from gg _ _ (by decide) q] at hj
        have fr : ∀ f, f / 128 = 152 → gI t f (d * 200 + Int32.ofNat j) = gI s0 f (d * 200 + Int32.ofNat j) := fun f r => nI f _ (by omega) (fun z => by omega) (fun z => by omega) (fun _ i a b => fm_ne hd hc (fI (c := d) (by omega)) ⟨a, b⟩ q)
        exact jf_eq (fr _ (by decide)) (fr _ (by decide)) (fr _ (by decide)) (fr _ (by decide)) gp A
      · by_cases a : iU t c
        · have js : jS t c = 0 := by
            unfold jS
            rw [i3]
            rfl
          rw [om_u a, i3, i7, js, if_pos rfl]
          show 4 * 0 + 1200 + 2405 * 0 + 0 ≤ _
          omega
        · rw [om_n a]
          omega
    omega
/-- the number's bound -/
theorem jS_bd {s : S1} {n : Nat × Nat} {τ : Bool} {c : Int32} (W : cW s n) (F : qFr τ s) (a : cAv s c) : jS s c ≤ 4000 := by
  obtain ⟨-, dD, dU⟩ := W.hi.dep a
  have fr := (F c a).2
  have e0 : (0 : Int32).toInt = 0 := rfl
  have e1 : (1 : Int32).toInt = 1 := rfl
  have cd := clampI dD.1
  have key : ∀ k, k ≤ (oD s c).toNatClampNeg → (sg (fun j => jf s (c * 200 + Int32.ofNat j)) k : Int) ≤ if k < (oD s c).toNatClampNeg then fBs s (c * 200 + Int32.ofNat k) else (oU s c).toInt := by
    intro k
    induction k with
    | zero =>
      intro _
      show (0 : Int) ≤ _
      split
      · rename_i z
        have := fr 0 (by decide) (by rw [i32_lt]; omega)
        exact this.2.1.1
      · exact dU.1
    | succ k ih =>
      intro hk
      have i := ih (by omega)
      rw [if_pos (by omega)] at i
      have ek : (Int32.ofNat k).toInt = k := ofNat_toInt (by omega)
      have ek1 : (Int32.ofNat k + 1).toInt = k + 1 := by rw [ktI_add, ek] <;> omega
      have es : Int32.ofNat (k + 1) = Int32.ofNat k + 1 := toInt_inj (by rw [ek1, ofNat_toInt (by omega)]; omega)
      obtain ⟨-, -, q3, q4⟩ := fr (Int32.ofNat k) (by rw [i32_le]; omega) (by rw [i32_lt]; omega)
      have en : fEnd s c (Int32.ofNat k) = if k + 1 < (oD s c).toNatClampNeg then fBs s (c * 200 + Int32.ofNat (k + 1)) else (oU s c).toInt := by
        unfold fEnd
        rw [es]
        by_cases z : k + 1 < (oD s c).toNatClampNeg
        · rw [if_pos z, if_pos (by omega)]
        · rw [if_neg z, if_neg (by omega)]
      rw [← en]
      show ((sg (fun j => jf s (c * 200 + Int32.ofNat j)) k + jf s (c * 200 + Int32.ofNat k) : Nat) : Int) ≤ _
      by_cases z : fWh s (c * 200 + Int32.ofNat k) = 0
      · obtain ⟨⟨l6, lk⟩, ex, eq, -⟩ := q4 z
        have jl := jf_le (s := s) (f := c * 200 + Int32.ofNat k)
        have kl := W.kl _ l6
        rw [lk] at kl
        have pr := (W.pg.2.2.1 _ kl.1 kl.2).2.2.1
        omega
      · rw [jf_0 z, ← q3 z]
        omega
  have w := key _ (Nat.le_refl _)
  rw [if_neg (by omega)] at w
  unfold jS
  omega
theorem Om_bd {s : S1} {n : Nat × Nat} {τ : Bool} (W : cW s n) (F : qFr τ s) : Om s ≤ 307904000 := by
  refine Nat.le_trans (sg_bd (b := 9622000) 32 fun i hi => ?_) (by decide)
  by_cases a : iU s (Int32.ofNat i)
  · have hd := (idx' hi).1
    have av : cAv s (Int32.ofNat i) := ⟨⟨hd, a.1⟩, a.2⟩
    have j := jS_bd W F av
    have d := W.hi.dn hd a
    rw [om_u a]
    split <;> omega
  · rw [om_n a]
    omega
