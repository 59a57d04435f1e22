/-! The class: the list of children. -/
theorem sg_add (f g : Nat → Nat) : ∀ n, sg (fun i => f i + g i) n = sg f n + sg g n
  | 0 => rfl
  | n + 1 => by
    show sg (fun i => f i + g i) n + (f n + g n) = (sg f n + f n) + (sg g n + g n)
    rw [sg_add f g n]
    omega
theorem sg_swap (x : Nat → Nat → Nat) (M : Nat) : ∀ N, sg (fun q => sg (fun m => x m q) M) N = sg (fun m => sg (fun q => x m q) N) M
  | 0 => by
    have : sg (fun m => sg (fun q => x m q) 0) M ≤ M * 0 := sg_bd M fun i _ => Nat.le_refl _
    show 0 = _
    omega
  | N + 1 => by
    show sg (fun q => sg (fun m => x m q) M) N + sg (fun m => x m N) M = sg (fun m => sg (fun q => x m q) N + x m N) M
    rw [sg_add, sg_swap x M N]
theorem sg_ind (a : Int32) : ∀ N, N ≤ 1000 → sg (fun q => if a = Int32.ofNat q then 1 else 0) N ≤ 1
  | 0, _ => by
    show 0 ≤ 1
    omega
  | N + 1, h => by
    show sg (fun q => if a = Int32.ofNat q then 1 else 0) N + (if a = Int32.ofNat N then 1 else 0) ≤ 1
    by_cases z : a = Int32.ofNat N
    · have : sg (fun q => if a = Int32.ofNat q then 1 else 0) N ≤ N * 0 := sg_bd N fun q hq => by
        rw [if_neg (fun y => ?_)]
        exact Nat.le_refl _
        have := oinj (a := q) (b := N) (by omega) (by omega) (y.symm.trans z)
        omega
      rw [if_pos z]
      omega
    · rw [if_neg z]
      have := sg_ind a N (by omega)
      omega
/-- how many children a prototype said it has -/
def Dd (s : S1) (q : Nat) : Nat := (gI s 18442 (Int32.ofNat q)).toNatClampNeg
theorem Dd_sum {s : S1} {N : Nat} (h : Tr s N 0) (hN : N ≤ 250) : sg (Dd s) N ≤ N := by
  have e : sg (Dd s) N = sg (fun q => cnt s N q) N := sg_eq N fun q hq => by
    have w := h.2 q hq
    have l : lf s 0 q = 0 := rfl
    show Dd s q = cnt s N q
    unfold Dd
    omega
  have e2 : sg (fun q => cnt s N q) N = sg (fun m => sg (fun q => if gI s 18444 (Int32.ofNat m) = Int32.ofNat q then 1 else 0) N) N := sg_swap (fun m q => if gI s 18444 (Int32.ofNat m) = Int32.ofNat q then 1 else 0) N N
  have e3 := sg_bd (f := fun m => sg (fun q => if gI s 18444 (Int32.ofNat m) = Int32.ofNat q then 1 else 0) N) (b := 1) N fun m _ => sg_ind _ N (by omega)
  omega
theorem Dd_le {s : S1} {N : Nat} (h : Tr s N 0) {q : Nat} (hq : q < N) : cnt s N q = Dd s q := by
  have w := h.2 q hq
  have l : lf s 0 q = 0 := rfl
  unfold Dd
  omega
/-- the first walk: where each one's children begin -/
def lcI (s : S1) (N : Nat) (y : Int32 × Int32) (t : S1) : Prop := ∃ k : Nat, y.2.toInt = k ∧ k ≤ N ∧ y.1.toInt = sg (Dd s) k ∧ (∀ (f : Nat) (j : Int32), ¬ ((f = 18442 ∨ f = 18443) ∧ j.toInt < (k : Int)) → gI t f j = gI s f j) ∧ t.2 = s.2 ∧ ∀ q, q < k → (gI t 18443 (Int32.ofNat q)).toInt = sg (Dd s) q ∧ gI t 18442 (Int32.ofNat q) = 0
theorem lc1_ok {s : S1} {N : Nat} (hN : N ≤ 250) (np : (gI s 12937 0).toInt = N) (rg : Rg s N) (tr : Tr s N 0) : ok (oW M_Ch_listChildren_L4 (0, 0)) s (fun _ t => (∀ (f : Nat) (j : Int32), ¬ ((f = 18442 ∨ f = 18443) ∧ j.toInt < (N : Int)) → gI t f j = gI s f j) ∧ t.2 = s.2 ∧ ∀ q, q < N → (gI t 18443 (Int32.ofNat q)).toInt = sg (Dd s) q ∧ gI t 18442 (Int32.ofNat q) = 0) := by
  have e0 : (0 : Int32).toInt = 0 := rfl
  have e250 : (250 : Int32).toInt = 250 := rfl
  have sum := Dd_sum tr hN
  refine ok_W (lcI s N) (fun y _ => (N - y.2.toInt).toNat) ?_ (0, 0) s ⟨0, rfl, by omega, rfl, fun _ _ _ => rfl, rfl, fun q hq => absurd hq (by omega)⟩
  rintro ⟨x, i⟩ t ⟨k, ik, kN, xk, I, T2, Q⟩
  dsimp only at ik xk
  have np' : gI t 12937 0 = gI s 12937 0 := I _ _ (fun z => by omega)
  simp only [M_Ch_listChildren_L4, ok_B, ok_C, ok_R, ok_L, ok_K, ok_GI, ok_GL, ok_PI, ok_PL, ok_AI, ok_AL, ok_SI, ok_SL, ok_CI, cmp_lt, cmp_le, cmp_gt, cmp_ge, cmp_eq, nar0, nar1, Sum.elim_inl, Sum.elim_inr, ok_PzT, ok_PzC, ok_PzP, ok_PrC, ok_PrP, ok_PrF, ok_PrN, ok_Ln, ok_CL, ok_Nw, ok_S, ok_Ks, ok_Nz]
  rw [np']
  refine ⟨fun c => ?_, fun c => ?_⟩
  · rw [i32_le, np] at c
    have ek : k = N := by omega
    rw [ek] at I Q
    exact ⟨I, T2, Q⟩
  · rw [i32_le, np] at c
    have ei : i = Int32.ofNat k := of_toInt ik
    have pr : 0 ≤ i ∧ i < 250 := ⟨by rw [i32_le]; omega, by rw [i32_lt]; omega⟩
    have fl : gI t 18559 i = 1 := by
      rw [I _ _ (fun z => by omega)]
      exact (rg.pd (q := i) (by omega) (by omega)).1
    have f3 : ∀ f j, f ≠ 18443 → gI (sI t 18443 i x) f j = gI t f j := fun f j q => by rw [gI_sI, if_neg (fun z => q z.1)]
    have dk : gI (sI t 18443 i x) 18442 i = gI s 18442 (Int32.ofNat k) := by
      rw [f3 _ _ (by decide), I _ _ (fun z => by omega), ei]
    have nn := (rg.pd (q := i) (by omega) (by omega)).2.2.2.2.2.2.1
    rw [ei] at nn
    have cD : ((Dd s k : Nat) : Int) = (gI s 18442 (Int32.ofNat k)).toInt := clampI nn.1
    have st : sg (Dd s) (k + 1) = sg (Dd s) k + Dd s k := rfl
    have mono := sg_mo (f := Dd s) (k + 1) N (by omega)
    have ex : (x + gI s 18442 (Int32.ofNat k)).toInt = sg (Dd s) (k + 1) := by
      rw [ktI_add] <;> omega
    have i1' := i1 ik (by omega)
    rw [dk]
    refine ⟨⟨pr, fl⟩, ⟨pr, (f3 _ _ (by decide)).trans fl⟩, ⟨pr, (f3 _ _ (by decide)).trans fl⟩, ⟨k + 1, i1', by omega, ex, fun f j q => ?_, T2, fun q hq => ?_⟩, by rw [i1']; omega⟩
    · have q1 : ¬ (f = 18442 ∧ j = i) := fun z => q ⟨.inl z.1, by rw [z.2]; omega⟩
      have q2 : ¬ (f = 18443 ∧ j = i) := fun z => q ⟨.inr z.1, by rw [z.2]; omega⟩
      rw [gI_sI, if_neg q1, gI_sI, if_neg q2]
      exact I f j (fun z => q ⟨z.1, by omega⟩)
    · by_cases z : q = k
      · rw [z, ← ei]
        rw [gI_sI, if_neg (fun y => absurd y.1 (by decide)), gI_sI, if_pos ⟨rfl, rfl⟩, gI_sI, if_pos ⟨rfl, rfl⟩]
        exact ⟨xk, rfl⟩
      · have ne : Int32.ofNat q ≠ i := fun y => z (oinj (by omega) (by omega) (y.trans ei))
        rw [gI_sI, if_neg (fun y => ne y.2), gI_sI, if_neg (fun y => ne y.2), gI_sI, if_neg (fun y => ne y.2), gI_sI, if_neg (fun y => ne y.2)]
        exact Q q (by omega)
theorem cnt_s (s : S1) (k q : Nat) : cnt s (k + 1) q = cnt s k q + (if gI s 18444 (Int32.ofNat k) = Int32.ofNat q then 1 else 0) := rfl
/-- the second walk: each one is put under the one around it -/
def ldI (s : S1) (N : Nat) (k : Nat) (t : S1) : Prop := (∀ (f : Nat) (j : Int32), ¬ ((f = 18442 ∨ f = 18443) ∧ j.toInt < (N : Int)) → gI t f j = gI s f j) ∧ ((∀ f j, gL t f j = gL s f j) ∧ (∀ a j q, a ≠ 103 → gA t a j q = gA s a j q) ∧ ∀ a j q, gB t a j q = gB s a j q) ∧ (∀ q, q < N → (gI t 18443 (Int32.ofNat q)).toInt = sg (Dd s) q ∧ (gI t 18442 (Int32.ofNat q)).toInt = cnt s k q) ∧ ∀ q, q < N → ∀ j, j < cnt s k q → ∃ c : Nat, c < k ∧ gA t 103 0 (Int32.ofNat (sg (Dd s) q + j)) = Int32.ofNat c ∧ gI s 18444 (Int32.ofNat c) = Int32.ofNat q
def ldJ (s : S1) (N : Nat) (y : Int32) (t : S1) : Prop := ∃ k : Nat, y.toInt = (k : Int) ∧ 1 ≤ k ∧ k ≤ N ∧ ldI s N k t
theorem lc2_ok {s t0 : S1} {N : Nat} (hN : 1 ≤ N ∧ N ≤ 250) (np : (gI s 12937 0).toInt = N) (rg : Rg s N) (tr : Tr s N 0) (h0 : ldI s N 1 t0) : ok (oW M_Ch_listChildren_L52 1) t0 (fun _ t => ldI s N N t) := by
  have e0 : (0 : Int32).toInt = 0 := rfl
  have e1 : (1 : Int32).toInt = 1 := rfl
  have e250 : (250 : Int32).toInt = 250 := rfl
  have sum := Dd_sum tr hN.2
  refine ok_W (ldJ s N) (fun (y : Int32) _ => ((N : Int) - y.toInt).toNat) ?_ 1 t0 ⟨1, rfl, by omega, by omega, h0⟩
  rintro i t ⟨k, ik, k1, kN, I, ⟨L, A, B⟩, Q, C⟩
  simp only [M_Ch_listChildren_L52, ok_B, ok_C, ok_R, ok_L, ok_K, ok_GI, ok_GL, ok_PI, ok_PL, ok_AI, ok_AL, ok_SI, ok_SL, ok_CI, cmp_lt, cmp_le, cmp_gt, cmp_ge, cmp_eq, nar0, nar1, Sum.elim_inl, Sum.elim_inr, ok_PzT, ok_PzC, ok_PzP, ok_PrC, ok_PrP, ok_PrF, ok_PrN, ok_Ln, ok_CL, ok_Nw, ok_S, ok_Ks, ok_Nz]
  have np' : gI t 12937 0 = gI s 12937 0 := I _ _ (fun z => by omega)
  rw [np']
  refine ⟨fun c => ?_, fun c => ?_⟩
  · rw [i32_le, np] at c
    have ek : k = N := by omega
    rw [ek] at Q C
    exact ⟨I, ⟨L, A, B⟩, Q, C⟩
  · rw [i32_le, np] at c
    have ei : i = Int32.ofNat k := of_toInt ik
    have pr : 0 ≤ i ∧ i < 250 := ⟨by rw [i32_le]; omega, by rw [i32_lt]; omega⟩
    have pd := rg.pd (q := i) (by omega) (by omega)
    have fl : gI t 18559 i = 1 := by
      rw [I _ _ (fun z => by omega)]
      exact pd.1
    have ar0 : 0 ≤ gI s 18444 i := pd.2.2.2.2.2.1.1 (by omega)
    have ar1 := pd.2.2.2.2.2.1.2.2
    have ar0' := ar0
    rw [i32_le] at ar0'
    have ea : gI t 18444 i = gI s 18444 i := I _ _ (fun z => by omega)
    rw [ea]
    have cd := clampI (x := gI s 18444 i) (by omega)
    have en : gI s 18444 i = Int32.ofNat (gI s 18444 i).toNatClampNeg := of_toInt cd.symm
    generalize (gI s 18444 i).toNatClampNeg = a at cd en
    have aN : a < k := by omega
    have pda := rg.pd (q := gI s 18444 i) (by omega) (by omega)
    have fla : gI t 18559 (gI s 18444 i) = 1 := by
      rw [I _ _ (fun z => by omega)]
      exact pda.1
    have pra : 0 ≤ gI s 18444 i ∧ gI s 18444 i < 250 := ⟨ar0, by rw [i32_lt]; omega⟩
    obtain ⟨s1, s2⟩ := Q a (by omega)
    rw [en]
    -- places
    have cs := cnt_s s k a
    rw [← ei, en, if_pos rfl] at cs
    have cm : cnt s (k + 1) a ≤ cnt s N a := sg_mo _ _ (by omega)
    have cD := Dd_le tr (q := a) (by omega)
    have st : sg (Dd s) (a + 1) = sg (Dd s) a + Dd s a := rfl
    have mono := sg_mo (f := Dd s) (a + 1) N (by omega)
    have ix : (gI t 18443 (Int32.ofNat a) + gI t 18442 (Int32.ofNat a)).toInt = ((sg (Dd s) a + cnt s k a : Nat) : Int) := by
      rw [ktI_add] <;> omega
    have ixn : gI t 18443 (Int32.ofNat a) + gI t 18442 (Int32.ofNat a) = Int32.ofNat (sg (Dd s) a + cnt s k a) := of_toInt ix
    rw [ixn]
    have er := oI (k := sg (Dd s) a + cnt s k a) (by omega)
    have i1' := i1 ik (by omega)
    have inc : (gI t 18442 (Int32.ofNat a) + 1).toInt = ((cnt s (k + 1) a : Nat) : Int) := by
      rw [ktI_add] <;> omega
    rw [en] at pra fla
    refine ⟨⟨pr, fl⟩, ⟨pra, fla⟩, ⟨by rw [i32_le, er]; omega, by rw [i32_lt, er]; omega⟩, ⟨k + 1, i1', by omega, by omega, fun f j q => ?_, ⟨L, fun b j q z => ?_, B⟩, fun q hq => ?_, fun q hq j hj => ?_⟩, by rw [i1']; omega⟩
    · rw [gI_sI, if_neg (fun z => q ⟨.inl z.1, by rw [z.2, oI (by omega)]; omega⟩)]
      exact I f j q
    · rw [gA_sI, gA_sA, if_neg (fun y => z y.1)]
      exact A b j q z
    · have w := Q q hq
      refine ⟨?_, ?_⟩
      · rw [gI_sI, if_neg (fun z => absurd z.1 (by decide))]
        exact w.1
      · rw [gI_sI]
        by_cases z : q = a
        · rw [z, if_pos ⟨rfl, rfl⟩]
          exact inc
        · have ne : Int32.ofNat q ≠ Int32.ofNat a := fun y => z (oinj (by omega) (by omega) y)
          rw [if_neg (fun y => ne y.2), cnt_s, ← ei, en, if_neg (fun y => ne y.symm), Nat.add_zero]
          exact w.2
    · have gA' : ∀ x : Nat, x < 2147483648 → gA (sI (sA t 103 0 (Int32.ofNat (sg (Dd s) a + cnt s k a)) i) 18442 (Int32.ofNat a) (gI t 18442 (Int32.ofNat a) + 1)) 103 0 (Int32.ofNat x) = if x = sg (Dd s) a + cnt s k a then i else gA t 103 0 (Int32.ofNat x) := fun x hx => by
        rw [gA_sI, gA_sA]
        by_cases z : x = sg (Dd s) a + cnt s k a
        · rw [if_pos ⟨rfl, rfl, by rw [z]⟩, if_pos z]
        · rw [if_neg (fun y => z (oinj hx (by omega) y.2.2)), if_neg z]
      have dq := Dd_le tr (q := q) hq
      have cq : cnt s (k + 1) q ≤ cnt s N q := sg_mo _ _ (by omega)
      have sq : sg (Dd s) (q + 1) = sg (Dd s) q + Dd s q := rfl
      have mq := sg_mo (f := Dd s) (q + 1) N (by omega)
      have gset : ∀ x : Nat, x < 2147483648 → gA (sI (sA t 103 0 (Int32.ofNat (sg (Dd s) a + cnt s k a)) i) 18442 (Int32.ofNat a) (gI (sA t 103 0 (Int32.ofNat (sg (Dd s) a + cnt s k a)) i) 18442 (Int32.ofNat a) + 1)) 103 0 (Int32.ofNat x) = if x = sg (Dd s) a + cnt s k a then i else gA t 103 0 (Int32.ofNat x) := gA'
      rw [gset _ (by omega)]
      by_cases z : q = a ∧ j = cnt s k a
      · rw [z.1, z.2, if_pos rfl]
        exact ⟨k, by omega, ei, by rw [← ei]; exact en⟩
      · have jl : j < cnt s k q := by
          rw [cnt_s, ← ei, en] at hj
          by_cases y : q = a
          · rw [y] at hj ⊢
            rw [if_pos rfl] at hj
            have : j ≠ cnt s k a := fun w => z ⟨y, w⟩
            omega
          · have ne : Int32.ofNat a ≠ Int32.ofNat q := fun w => y (oinj (by omega) (by omega) w.symm)
            rw [if_neg ne] at hj
            omega
        have ne : sg (Dd s) q + j ≠ sg (Dd s) a + cnt s k a := by
          have lk : cnt s k q ≤ cnt s (k + 1) q := sg_mo _ _ (by omega)
          rcases Nat.lt_trichotomy q a with y | y | y
          · have := sg_mo (f := Dd s) (q + 1) a (by omega)
            omega
          · rw [y] at jl ⊢
            omega
          · have := sg_mo (f := Dd s) (a + 1) q (by omega)
            omega
        rw [if_neg ne]
        obtain ⟨c, c1, c2, c3⟩ := C q hq j jl
        exact ⟨c, by omega, c2, c3⟩
