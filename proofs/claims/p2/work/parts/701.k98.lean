/-! The class: readAll. -/
theorem i1 {x : Int32} {k : Nat} (h : x.toInt = k) (hk : k ≤ 1000) : (x + 1).toInt = ((k + 1 : Nat) : Int) := by
  have e1 : (1 : Int32).toInt = 1 := rfl
  rw [ktI_add] <;> omega
theorem Rg.pd {s : S1} {N : Int} (h : Rg s N) {q : Int32} (q0 : 0 ≤ q.toInt) (q1 : q.toInt < N) : Pd s q := h.2.2.2.1 q q0 q1
/-- one prototype more -/
theorem ra100 {s : S1} {ln : Nat × Nat} {l2 l3 ar : Int32} {d N : Nat} (hd : l2.toInt = d) (hN : l3.toInt = N) (d20 : d < 20) (N250 : N < 250) (b : Bz s ln) (rg : Rg s N) (tr : Tr s N d)
    (hc : (d = 0 ∧ N = 0 ∧ ar = -1) ∨ (0 < d ∧ 0 < N ∧ ar = gA s 109 0 (Int32.ofNat (d - 1)) ∧ gA s 110 0 (Int32.ofNat (d - 1)) ≠ 0)) :
    ok (M_Ch_readAll_j100 l2 l3 ln ar l3) s (fun y t => Sum.elim (fun z => raI z t ∧ (251 - z.2.1.toInt).toNat < (251 - l3.toInt).toNat) (fun e => raP e t) y) := by
  have e0 : (0 : Int32).toInt = 0 := rfl
  have e1 : (1 : Int32).toInt = 1 := rfl
  have e20 : (20 : Int32).toInt = 20 := rfl
  have e250 : (250 : Int32).toInt = 250 := rfl
  have el2 : l2 = Int32.ofNat d := of_toInt hd
  have el3 : l3 = Int32.ofNat N := of_toInt hN
  have ha : ((N : Int) = 0 ∧ ar = -1) ∨ (0 < (N : Int) ∧ 0 ≤ ar.toInt ∧ ar.toInt < N) := by
    rcases hc with ⟨-, q, r⟩ | ⟨q, r, k, -⟩
    · exact .inl ⟨by omega, r⟩
    · have w := (tr.1 (d - 1) (by omega)).1
      rw [← k] at w
      exact .inr ⟨by omega, w⟩
  simp only [M_Ch_readAll_j100, M_Ch_readAll_j124, ok_B, ok_C, ok_R, ok_L, ok_K, ok_GI, ok_GL, ok_PI, ok_PL, ok_AI, ok_AL, ok_SI, ok_SL, ok_CI, cmp_lt, cmp_le, cmp_gt, cmp_ge, cmp_eq, nar0, nar1, Sum.elim_inl, Sum.elim_inr, ok_PzT, ok_PzC, ok_PzP, ok_PrC, ok_PrP, ok_PrF, ok_PrN, ok_Ln, ok_CL, ok_Nw, ok_S, ok_Ks, ok_Nz]
  refine ok_mono (proto_ok b rg hN ⟨by omega, by omega⟩ ha) ?_
  rintro ⟨r, m⟩ u ⟨bu, ff, -, h⟩
  dsimp only at bu h ⊢
  refine ⟨fun _ => bu, fun rz => ?_⟩
  obtain ⟨rgu, npu, aru⟩ := h rz
  have pdN : Pd u l3 := rgu.pd (by omega) (by omega)
  have oth : ∀ f j, f / 128 = 144 → j ≠ l3 → gI u f j = gI s f j := fun f j q z => ff.1 f j (rd144 q) (by omega) (fun y => z y.2)
  have nl : ∀ k : Nat, k < N → Int32.ofNat k ≠ l3 := fun k hk z => by
    have := congrArg Int32.toInt z
    rw [oI (by omega)] at this
    omega
  have u9 : ∀ e, gA u 109 0 e = gA s 109 0 e := fun e => ff.2.2 _ _ _ (by decide)
  have u10 : ∀ e, gA u 110 0 e = gA s 110 0 e := fun e => ff.2.2 _ _ _ (by decide)
  have i2 := i1 hd (by omega)
  have i3 := i1 hN (by omega)
  have rgl : 0 ≤ l2 ∧ l2 < 20 := ⟨by rw [i32_le]; omega, by rw [i32_lt]; omega⟩
  have pl3 : 0 ≤ l3 ∧ l3 < 250 := ⟨by rw [i32_le]; omega, by rw [i32_lt]; omega⟩
  have key : ∀ T : S1, (∀ f j, gI T f j = gI u f j) → (∀ b j k, b ≠ 109 ∧ b ≠ 110 → gA T b j k = gA u b j k) → (∀ b j k, gB T b j k = gB u b j k) → (∀ e, gA T 109 0 e = if e = Int32.ofNat d then Int32.ofNat N else gA u 109 0 e) → (∀ e, gA T 110 0 e = if e = Int32.ofNat d then gI u 18442 (Int32.ofNat N) else if 0 < d ∧ e = Int32.ofNat (d - 1) then gA u 110 0 e - 1 else gA u 110 0 e) → raI (l2 + 1, l3 + 1, m) T ∧ (251 - (l3 + 1).toInt).toNat < (251 - l3.toInt).toNat := fun T TI TA TB T9 T10 => by
    refine ⟨⟨d + 1, N + 1, i2, i3, by omega, by omega, fun z => by omega, bu.eq TI (fun j => TA _ _ _ (by decide)), ?_, ?_, ?_⟩, by rw [i3]; omega⟩
    · have w := rgu.eq TI TA TB
      have ec : ((N + 1 : Nat) : Int) = (N : Int) + 1 := by omega
      rw [ec]
      exact w
    · refine tr_step (s := s) (u := u) (ar := ar) tr N250 d20 (fun k hk => oth _ _ (by decide) (nl k hk)) (fun k hk => oth _ _ (by decide) (nl k hk)) (fun q hq => ?_) (by rw [← el3]; exact aru) u9 u10 (by rw [← el3]; exact pdN.2.2.2.2.2.2.1.1) ?_ TI T9 T10
      · have w := (rgu.pd (q := Int32.ofNat q) (by rw [oI (by omega)]; omega) (by rw [oI (by omega)]; omega)).2.2.2.2.2.1.2.2
        rw [oI (k := q) (by omega)] at w
        exact w
      · rcases hc with ⟨q, r, -⟩ | ⟨q, -, r, k⟩
        · exact .inl ⟨q, r⟩
        · exact .inr ⟨q, r, k⟩
    · rw [TI, npu]
      exact i3
  refine ⟨fun c => ?_, fun c => ?_⟩
  · rw [i32_le] at c
    have d0 : d = 0 := by omega
    refine ⟨rgl, ⟨pl3, pdN.1⟩, rgl, key _ (fun _ _ => rfl) (fun b j k z => ?_) (fun _ _ _ => rfl) (fun e => ?_) (fun e => ?_)⟩
    · rw [gA_sA, if_neg (fun y => z.2 y.1), gA_sA, if_neg (fun y => z.1 y.1)]
    · rw [gA_sA, if_neg (fun y => absurd y.1 (by decide)), gA_sA, ← el2, ← el3]
      by_cases z : e = l2
      · rw [if_pos ⟨rfl, rfl, z⟩, if_pos z]
      · rw [if_neg (fun y => z y.2.2), if_neg z]
    · rw [gA_sA, ← el2, ← el3]
      by_cases z : e = l2
      · rw [if_pos ⟨rfl, rfl, z⟩, if_pos z]
        rfl
      · rw [if_neg (fun y => z y.2.2), if_neg z, if_neg (fun y => by omega), gA_sA, if_neg (fun y => absurd y.1 (by decide))]
  · rw [i32_le] at c
    have d0 : 0 < d := by omega
    have es : l2 - 1 = Int32.ofNat (d - 1) := of_toInt (ym hd d0 (by omega)).2.2
    rw [es]
    have er := oI (k := d - 1) (by omega)
    have rg1 : 0 ≤ Int32.ofNat (d - 1) ∧ Int32.ofNat (d - 1) < 20 := ⟨by rw [i32_le, er]; omega, by rw [i32_lt, er]; omega⟩
    have nd : Int32.ofNat (d - 1) ≠ l2 := fun z => by
      have := congrArg Int32.toInt z
      rw [er] at this
      omega
    refine ⟨rg1, rg1, rgl, ⟨pl3, pdN.1⟩, rgl, key _ (fun _ _ => rfl) (fun b j k z => ?_) (fun _ _ _ => rfl) (fun e => ?_) (fun e => ?_)⟩
    · rw [gA_sA, if_neg (fun y => z.2 y.1), gA_sA, if_neg (fun y => z.1 y.1), gA_sA, if_neg (fun y => z.2 y.1)]
    · rw [gA_sA, if_neg (fun y => absurd y.1 (by decide)), gA_sA, ← el2, ← el3]
      by_cases z : e = l2
      · rw [if_pos ⟨rfl, rfl, z⟩, if_pos z]
      · rw [if_neg (fun y => z y.2.2), if_neg z, gA_sA, if_neg (fun y => absurd y.1 (by decide))]
    · rw [gA_sA, ← el2, ← el3]
      by_cases z : e = l2
      · rw [if_pos ⟨rfl, rfl, z⟩, if_pos z]
        rfl
      · rw [if_neg (fun y => z y.2.2), if_neg z, gA_sA, if_neg (fun y => absurd y.1 (by decide)), gA_sA]
        by_cases w : e = Int32.ofNat (d - 1)
        · rw [if_pos ⟨rfl, rfl, w⟩, if_pos ⟨d0, w⟩, w]
        · rw [if_neg (fun y => w y.2.2), if_neg (fun y => w y.2)]
theorem raLoop_ok {s : S1} {n : Nat × Nat} (b : Bz s n) (rg : Rg s 0) (np : gI s 12937 0 = 0) : ok (oW M_Ch_readAll_L9 (0, 0, n)) s raP := by
  have e0 : (0 : Int32).toInt = 0 := rfl
  have e1 : (1 : Int32).toInt = 1 := rfl
  have e20 : (20 : Int32).toInt = 20 := rfl
  have e250 : (250 : Int32).toInt = 250 := rfl
  refine ok_W raI (fun y _ => (251 - y.2.1.toInt).toNat) ?_ (0, 0, n) s ⟨0, 0, rfl, rfl, by omega, by omega, fun _ => rfl, b, rg, ⟨fun e he => absurd he (by omega), fun q hq => absurd hq (by omega)⟩, by rw [np]; rfl⟩
  rintro ⟨l2, l3, m⟩ t ⟨d, N, hd, hN, d20, N250, z0, bt, rt, tr, nt⟩
  dsimp only at hd hN bt ⊢
  simp only [M_Ch_readAll_L9, ok_B, ok_C, ok_R, ok_L, ok_K, ok_GI, ok_GL, ok_PI, ok_PL, ok_AI, ok_AL, ok_SI, ok_SL, ok_CI, cmp_lt, cmp_le, cmp_gt, cmp_ge, cmp_eq, nar0, nar1, Sum.elim_inl, Sum.elim_inr, ok_PzT, ok_PzC, ok_PzP, ok_PrC, ok_PrP, ok_PrF, ok_PrN, ok_Ln, ok_CL, ok_Nw, ok_S, ok_Ks, ok_Nz]
  refine ⟨fun _ => bt, fun c => ?_⟩
  refine ok_mono (full_ok hd d20) ?_
  rintro x u ⟨eu, k, hx, kd, kl, kz⟩
  rw [eu]
  have trk : Tr t N k := ⟨fun e he => tr.1 e (by omega), fun q hq => by rw [kl q]; exact tr.2 q hq⟩
  have j59 : (k = 0 → N = 0) → (0 < k → 0 < N) → ok (M_Ch_readAll_j59 x l3 m) t (fun y t => Sum.elim (fun z => raI z t ∧ (251 - z.2.1.toInt).toNat < (251 - l3.toInt).toNat) (fun e => raP e t) y) := fun k0 k1 => by
    simp only [M_Ch_readAll_j59, ok_B, ok_C, ok_R, ok_L, ok_K, ok_GI, ok_GL, ok_PI, ok_PL, ok_AI, ok_AL, ok_SI, ok_SL, ok_CI, cmp_lt, cmp_le, cmp_gt, cmp_ge, cmp_eq, nar0, nar1, Sum.elim_inl, Sum.elim_inr, ok_PzT, ok_PzC, ok_PzP, ok_PrC, ok_PrP, ok_PrF, ok_PrN, ok_Ln, ok_CL, ok_Nw, ok_S, ok_Ks, ok_Nz]
    refine ⟨fun _ => bt, fun c1 => ⟨fun _ => bt, fun c2 => ⟨fun c3 => ?_, fun c3 => ?_⟩⟩⟩
    · have kk : k = 0 := by
        rw [c3, e0] at hx
        omega
      have nn := k0 kk
      exact ra100 hx hN (by omega) (by omega) bt rt trk (.inl ⟨kk, nn, rfl⟩)
    · have kp : 0 < k := by
        have : x.toInt ≠ 0 := fun y => c3 (toInt_inj y)
        omega
      have k20 : k < 20 := by
        have : x.toInt ≠ 20 := fun y => c2 (toInt_inj y)
        omega
      have n250 : N < 250 := by
        have : l3.toInt ≠ 250 := fun y => c1 (toInt_inj y)
        omega
      have es : x - 1 = Int32.ofNat (k - 1) := of_toInt (ym hx kp (by omega)).2.2
      rw [es]
      have er := oI (k := k - 1) (by omega)
      refine ⟨⟨by rw [i32_le, er]; omega, by rw [i32_lt, er]; omega⟩, ra100 hx hN k20 n250 bt rt trk (.inr ⟨kp, k1 kp, rfl, kz kp⟩)⟩
  refine ⟨fun c1 => j59 (fun _ => ?_) (fun z => ?_), fun c1 => ⟨fun c2 => ?_, fun c2 => j59 (fun z => ?_) (fun _ => ?_)⟩⟩
  · rw [i32_le] at c1
    omega
  · rw [i32_le] at c1
    have := z0 (by omega)
    omega
  · rw [i32_le] at c1
    rw [c2, e0] at hx
    have kk : k = 0 := by omega
    rw [kk] at trk
    exact ⟨bt, N, by omega, N250, rt, trk, nt⟩
  · exact absurd (toInt_inj (by rw [hx, z]; rfl)) c2
  · rw [i32_le] at c1
    omega
/-- a chunk has been read, or not -/
def reQ (r : Int32 × (Nat × Nat)) (t : S1) : Prop := Bz t r.2 ∧ (r.1 = 0 ∨ r.1 = 1) ∧ (r.1 ≠ 0 → raD t)
theorem readAll_ok {s : S1} {n : Nat × Nat} {l : Int32} (b : Bz s n) (hl : 0 ≤ l.toInt ∧ l.toInt ≤ 65536) : ok (M_Ch_readAll n l) s reQ := by
  have e0 : (0 : Int32).toInt = 0 := rfl
  simp only [M_Ch_readAll, M_Ch_begin, ok_B, ok_C, ok_R, ok_L, ok_K, ok_GI, ok_GL, ok_PI, ok_PL, ok_AI, ok_AL, ok_SI, ok_SL, ok_CI, cmp_lt, cmp_le, cmp_gt, cmp_ge, cmp_eq, nar0, nar1, Sum.elim_inl, Sum.elim_inr, ok_PzT, ok_PzC, ok_PzP, ok_PrC, ok_PrP, ok_PrF, ok_PrN, ok_Ln, ok_CL, ok_Nw, ok_S, ok_Ks, ok_Nz]
  have key : ∀ T : S1, (∀ f j, (f < 12937 ∨ 12944 < f) → gI T f j = gI s f j) → gI T 12941 0 = l → (∀ f, f = 12942 ∨ f = 12937 ∨ f = 12938 ∨ f = 12939 ∨ f = 12940 → gI T f 0 = 0) → T.2 = s.2 → Bz T n ∧ Rg T 0 ∧ gI T 12937 0 = 0 := fun T TI T1 T0 T2 => by
    have cc : rC T = 0 ∧ rK T = 0 ∧ rU T = 0 ∧ rAt T = 0 ∧ rLn T = l.toInt := ⟨by unfold rC; rw [T0 _ (by decide)]; rfl, by unfold rK; rw [T0 _ (by decide)]; rfl, by unfold rU; rw [T0 _ (by decide)]; rfl, by unfold rAt; rw [T0 _ (by decide)]; rfl, by unfold rLn; rw [T1]⟩
    refine ⟨⟨cRo.fi (x := 0) b.1 (fun f j q => TI f j (by omega)) (fun j _ => by show T.2.2.1 _ _ _ = s.2.2.1 _ _ _; rw [T2]), b.2.congr (fun f j q => TI f j (by unfold sfI at q; omega))⟩, ⟨⟨by omega, by omega, by omega⟩, ⟨by omega, by omega, by omega⟩, ⟨by omega, by omega⟩, fun q x y => absurd y (by omega), fun k x y => absurd y (by omega)⟩, T0 _ (by decide)⟩
  obtain ⟨k1, k2, k3⟩ := key (sI (sI (sI (sI (sI (sI (sI (sI s 12941 0 l) 12942 0 0) 12943 0 0) 12944 0 (-1)) 12937 0 0) 12938 0 0) 12939 0 0) 12940 0 0) (fun f j q => by
    rw [gI_sI, if_neg (fun z => by omega), gI_sI, if_neg (fun z => by omega), gI_sI, if_neg (fun z => by omega), gI_sI, if_neg (fun z => by omega), gI_sI, if_neg (fun z => by omega), gI_sI, if_neg (fun z => by omega), gI_sI, if_neg (fun z => by omega), gI_sI, if_neg (fun z => by omega)]) (by simp only [gI_sI, gI_sL, gI_sA, gI_sB, gI_sAf, gI_sBf, gL_sI, gL_sL, gL_sA, gL_sB, gL_sAf, gL_sBf, gA_sI, gA_sL, gA_sA, gA_sB, gA_sAf, gA_sBf, gB_sI, gB_sL, gB_sA, gB_sB, gB_sAf, gB_sBf, Nat.reduceEqDiff, Nat.reduceMul, Nat.reduceAdd, false_and, true_and, and_true, and_false, if_true, if_false]) (fun f q => by rcases q with z | z | z | z | z <;> rw [z] <;> simp only [gI_sI, gI_sL, gI_sA, gI_sB, gI_sAf, gI_sBf, gL_sI, gL_sL, gL_sA, gL_sB, gL_sAf, gL_sBf, gA_sI, gA_sL, gA_sA, gA_sB, gA_sAf, gA_sBf, gB_sI, gB_sL, gB_sA, gB_sB, gB_sAf, gB_sBf, Nat.reduceEqDiff, Nat.reduceMul, Nat.reduceAdd, false_and, true_and, and_true, and_false, if_true, if_false]) rfl
  generalize sI (sI (sI (sI (sI (sI (sI (sI s 12941 0 l) 12942 0 0) 12943 0 0) 12944 0 (-1)) 12937 0 0) 12938 0 0) 12939 0 0) 12940 0 0 = s1 at k1 k2 k3 ⊢
  refine ok_mono (raLoop_ok k1 k2 k3) ?_
  rintro (m | m | m | m) t q
  · obtain ⟨bt, rd⟩ := q
    simp only [Sum.elim_inl, Sum.elim_inr, M_Ch_readAll_j53, ok_B, ok_C, ok_R, ok_L, ok_K, ok_GI, ok_GL, ok_PI, ok_PL, ok_AI, ok_AL, ok_SI, ok_SL, ok_CI, cmp_lt, cmp_le, cmp_gt, cmp_ge, cmp_eq, nar0, nar1, Sum.elim_inl, Sum.elim_inr, ok_PzT, ok_PzC, ok_PzP, ok_PrC, ok_PrP, ok_PrF, ok_PrN, ok_Ln, ok_CL, ok_Nw, ok_S, ok_Ks, ok_Nz]
    refine ⟨fun _ => ⟨bt, .inr rfl, fun _ => rd⟩, fun _ => ?_⟩
    refine ok_mono (refuse_ok t 5 _) ?_
    rintro v u ⟨v0, nn, -⟩
    exact ⟨fun _ => ⟨bt.rl (nn.rl noF 0) (fun f z => z.elim), .inl rfl, fun z => absurd rfl z⟩, fun z => absurd v0 z⟩
  · simp only [Sum.elim_inl, Sum.elim_inr, M_Ch_readAll_j72, ok_B, ok_C, ok_R, ok_L, ok_K, ok_GI, ok_GL, ok_PI, ok_PL, ok_AI, ok_AL, ok_SI, ok_SL, ok_CI, cmp_lt, cmp_le, cmp_gt, cmp_ge, cmp_eq, nar0, nar1, Sum.elim_inl, Sum.elim_inr, ok_PzT, ok_PzC, ok_PzP, ok_PrC, ok_PrP, ok_PrF, ok_PrN, ok_Ln, ok_CL, ok_Nw, ok_S, ok_Ks, ok_Nz]
    have bt : Bz t m := q
    refine ok_mono (refuse_ok t 3 _) ?_
    rintro v u ⟨v0, nn, -⟩
    rw [v0]
    exact ⟨.inl rfl, bt.rl (nn.rl noF 0) (fun f z => z.elim), .inl rfl, fun z => absurd rfl z⟩
  · simp only [Sum.elim_inl, Sum.elim_inr, ok_B, ok_C, ok_R, ok_L, ok_K, ok_GI, ok_GL, ok_PI, ok_PL, ok_AI, ok_AL, ok_SI, ok_SL, ok_CI, cmp_lt, cmp_le, cmp_gt, cmp_ge, cmp_eq, nar0, nar1, Sum.elim_inl, Sum.elim_inr, ok_PzT, ok_PzC, ok_PzP, ok_PrC, ok_PrP, ok_PrF, ok_PrN, ok_Ln, ok_CL, ok_Nw, ok_S, ok_Ks, ok_Nz]
    exact ⟨q, .inl rfl, fun z => absurd rfl z⟩
  · simp only [Sum.elim_inl, Sum.elim_inr, ok_B, ok_C, ok_R, ok_L, ok_K, ok_GI, ok_GL, ok_PI, ok_PL, ok_AI, ok_AL, ok_SI, ok_SL, ok_CI, cmp_lt, cmp_le, cmp_gt, cmp_ge, cmp_eq, nar0, nar1, Sum.elim_inl, Sum.elim_inr, ok_PzT, ok_PzC, ok_PzP, ok_PrC, ok_PrP, ok_PrF, ok_PrN, ok_Ln, ok_CL, ok_Nw, ok_S, ok_Ks, ok_Nz]
    exact ⟨q, .inl rfl, fun z => absurd rfl z⟩
