/-! The class: which coroutines are there. -/
def cFlg (s : S1) (c : Int32) : Prop := gI s 19199 c = 1 ∧ gI s 19327 c = 1 ∧ gI s 19455 c = 1 ∧ gI s 18947 c = c ∧ ∀ j, 0 ≤ j → j < 200 → gI s 19583 (c * 200 + j) = 1
def cNfl (s : S1) (c : Int32) : Prop := gI s 19199 c ≠ 1 ∧ gI s 19327 c ≠ 1 ∧ gI s 19455 c ≠ 1 ∧ ∀ j, 0 ≤ j → j < 200 → gI s 19583 (c * 200 + j) ≠ 1
def cSf (s : S1) : Prop := (∀ c, 0 ≤ c → c < 32 → (gI s 19071 c = 1 → cFlg s c) ∧ (gI s 19071 c ≠ 1 → cNfl s c)) ∧ (gI s 16395 0 = -1 ∨ pC s (gI s 16395 0)) ∧ (gI s 16516 0 = -1 ∨ pC s (gI s 16516 0)) ∧ (gI s 16517 0 = -1 ∨ pF s (gI s 16517 0)) ∧ (gI s 16518 0 = -1 ∨ pP s (gI s 16518 0)) ∧ ∀ f, pF s f → gI s 19458 f = -1 ∨ pP s (gI s 19458 f)
def sfI (f : Nat) : Prop := f = 19071 ∨ f = 19199 ∨ f = 19327 ∨ f = 19455 ∨ f = 18947 ∨ f = 19583 ∨ f = 16395 ∨ f = 16516 ∨ f = 16517 ∨ f = 16518 ∨ f = 18559 ∨ f = 19458
theorem cSf.congr {s t : S1} (h : cSf s) (I : ∀ f j, sfI f → gI t f j = gI s f j) : cSf t := by
  unfold cSf cFlg cNfl pC pF pP at h ⊢
  simp only [I 19071 _ (by unfold sfI; decide), I 19199 _ (by unfold sfI; decide), I 19327 _ (by unfold sfI; decide), I 19455 _ (by unfold sfI; decide), I 18947 _ (by unfold sfI; decide), I 19583 _ (by unfold sfI; decide), I 16395 _ (by unfold sfI; decide), I 16516 _ (by unfold sfI; decide), I 16517 _ (by unfold sfI; decide), I 16518 _ (by unfold sfI; decide), I 18559 _ (by unfold sfI; decide), I 19458 _ (by unfold sfI; decide)]
  exact h
theorem cSf.gc {s t : S1} (h : cSf s) (g : cGc s t) : cSf t := h.congr (fun f j q => g.1 f j (by
  rcases q with rfl | rfl | rfl | rfl | rfl | rfl | rfl | rfl | rfl | rfl | rfl | rfl <;> decide))
theorem cSf.mg {s t : S1} (h : cSf s) (g : cMg s t) : cSf t := by
  rcases g with rfl | g
  · exact h
  · exact h.gc g.2
def cEn (c : Int32) (s t : S1) : Prop :=
  (∀ f j, f / 128 ≠ 153 → (148 ≤ f / 128 ∧ f / 128 ≤ 151 → j ≠ c) → (f / 128 = 152 → ∀ i, 0 ≤ i → i < 200 → j ≠ c * 200 + i) → gI t f j = gI s f j) ∧
  (∀ f j, f / 128 ≠ 153 → (f / 128 = 148 → j ≠ c) → (f / 128 = 152 → ∀ i, 0 ≤ i → i < 200 → j ≠ c * 200 + i) → gL t f j = gL s f j) ∧
  (∀ a j k, (149 ≤ a ∧ a ≤ 151 → j ≠ c) → gA t a j k = gA s a j k) ∧ (∀ a j k, (149 ≤ a ∧ a ≤ 151 → j ≠ c) → gB t a j k = gB s a j k) ∧
  gI t 19071 c = 1 ∧ cFlg t c ∧ ∀ i, 0 ≤ i → i < 200 → gI t 19458 (c * 200 + i) = -1 ∨ (gI s 19583 (c * 200 + i) = 1 ∧ gI t 19458 (c * 200 + i) = gI s 19458 (c * 200 + i))
theorem cEn.refl {c : Int32} {s : S1} (h : cSf s) (hc : pC s c) : cEn c s s :=
  ⟨fun _ _ _ _ _ => rfl, fun _ _ _ _ _ => rfl, fun _ _ _ _ => rfl, fun _ _ _ _ => rfl, hc.2, (h.1 c hc.1.1 hc.1.2).1 hc.2, fun i a b => .inr ⟨((h.1 c hc.1.1 hc.1.2).1 hc.2).2.2.2.2 i a b, rfl⟩⟩
def cIr (c k : Int32) (s t : S1) : Prop :=
  (∀ f j, (f / 128 = 152 → ∀ i, 0 ≤ i → i < 200 → j ≠ c * 200 + i) → gI t f j = gI s f j) ∧ (∀ f j, (f / 128 = 152 → ∀ i, 0 ≤ i → i < 200 → j ≠ c * 200 + i) → gL t f j = gL s f j) ∧ t.2.2 = s.2.2 ∧ (∀ i, 0 ≤ i → i < k → gI t 19583 (c * 200 + i) = 1 ∧ gI t 19458 (c * 200 + i) = -1) ∧ ∀ i, k ≤ i → i < 200 → gI t 19583 (c * 200 + i) = gI s 19583 (c * 200 + i)
theorem fm_inj1 {c i k : Int32} (hc : 0 ≤ c ∧ c < 32) (hi : 0 ≤ i ∧ i < 200) (hk : 0 ≤ k ∧ k < 200) (e : c * 200 + i = c * 200 + k) : i = k := by
  have a := fm_int hc hi
  have b := fm_int hc hk
  rw [e] at a
  exact toInt_inj (by omega)
theorem fm_ne {c d i k : Int32} (hc : 0 ≤ c ∧ c < 32) (hd : 0 ≤ d ∧ d < 32) (hi : 0 ≤ i ∧ i < 200) (hk : 0 ≤ k ∧ k < 200) (ne : c ≠ d) : c * 200 + i ≠ d * 200 + k := fun e => by
  have a := fm_int hc hi
  have b := fm_int hd hk
  rw [e] at a
  exact ne (toInt_inj (by omega))
theorem coLoop_ok {s : S1} {c : Int32} (hc : 0 ≤ c ∧ c < 32) (h1 : gI s 19455 c = 1) (hf : ∀ j, 0 ≤ j → j < 200 → gI s 19583 (c * 200 + j) ≠ 1) (h17 : gI s 16517 0 = -1 ∨ gI s 19583 (gI s 16517 0) = 1) (m : Nat × Nat) (r1 : 200 ≤ m.1) (r2 : 1800 ≤ m.2) :
    ok (oW M_Co_init_L39 (c, 0, m)) s (fun e t => e = (m.1 - 200, m.2 - 1800) ∧ cIr c 200 s t) := by
  have e0 : (0 : Int32).toInt = 0 := rfl
  have e1 : (1 : Int32).toInt = 1 := rfl
  have e200 : (200 : Int32).toInt = 200 := rfl
  have n9 : nfF 152 = 9 := rfl
  refine ok_W (fun y t => y.1 = c ∧ (0 ≤ y.2.1.toInt ∧ y.2.1.toInt ≤ 200) ∧ y.2.2 = (m.1 - y.2.1.toInt.toNat, m.2 - 9 * y.2.1.toInt.toNat) ∧ cIr c y.2.1 s t) (fun y _ => (200 - y.2.1.toInt).toNat) ?_ (c, 0, m) _ ⟨rfl, ⟨Int.le_refl _, by dsimp only; omega⟩, by simp, ?_⟩
  · rintro ⟨c', i, m'⟩ t ⟨rfl, ⟨i0, i1⟩, em', I, L, T, A, B⟩
    dsimp only at i0 i1 I L T A B hc h1 hf em'
    subst em'
    simp only [M_Co_init_L39, ok_B, ok_C, ok_R, ok_L, ok_K, ok_GI, ok_GL, ok_PI, ok_PL, ok_AI, ok_AL, ok_SI, ok_SL, ok_CI, cmp_lt, cmp_le, cmp_gt, cmp_ge, cmp_eq, nar0, nar1, Sum.elim_inl, Sum.elim_inr, ok_PzT, ok_PzC, ok_PzP, ok_PrC, ok_PrP, ok_PrF, ok_PrN, ok_Ln, ok_CL, ok_Nw, ok_S, ok_Ks, ok_Nz]
    refine ⟨fun q => ?_, fun q => ?_⟩
    · rw [i32_le] at q
      have : i = 200 := toInt_inj (by omega)
      subst this
      exact ⟨rfl, I, L, T, A, B⟩
    · rw [i32_le] at q
      have il : 0 ≤ i ∧ i < 200 := ⟨by rw [i32_le]; omega, by rw [i32_lt]; omega⟩
      have fi := fm_int hc il
      have fz : gI t 19583 (c' * 200 + i) ≠ 1 := by
        rw [B i (by rw [i32_le]; omega) il.2]
        exact hf i il.1 il.2
      have ei : (i + 1).toInt = i.toInt + 1 := by rw [ktI_add] <;> omega
      have g17 : gI t 16517 0 ≠ c' * 200 + i := fun z => by
        rw [I 16517 0 (fun w => absurd w (by decide))] at z
        rcases h17 with w | w
        · rw [z] at w
          have := congrArg Int32.toInt w
          have em : (-1 : Int32).toInt = -1 := rfl
          omega
        · rw [z] at w
          exact hf i il.1 il.2 w
      refine ⟨(I 19455 c' (fun w => absurd w (by decide))).trans h1, il, hc, ⟨fz, g17⟩, ⟨by omega, by omega⟩, ⟨by trivial, ⟨by omega, by omega⟩, ?_, ?_⟩, by omega⟩
      · rw [ei]
        show (m.1 - i.toInt.toNat - 1, m.2 - 9 * i.toInt.toNat - 9) = _
        rw [Prod.mk.injEq]
        omega
      · refine ⟨fun f j w => ?_, fun f j w => ?_, T, fun k a b => ?_, fun k a b => ?_⟩
        · rw [gI_nwO, if_neg (fun z => w z.1 i il.1 il.2 z.2)]
          exact I f j w
        · rw [gL_nwO, if_neg (fun z => w z.1 i il.1 il.2 z.2)]
          exact L f j w
        · by_cases z : k = i
          · subst z
            refine ⟨?_, ?_⟩
            · rw [gI_nwO, if_pos ⟨by decide, rfl⟩]
              decide
            · rw [gI_nwO, if_pos ⟨by decide, rfl⟩]
              decide
          · rw [i32_le] at a
            rw [i32_lt] at b
            have kl : 0 ≤ k ∧ k < 200 := ⟨by rw [i32_le]; omega, by rw [i32_lt]; omega⟩
            have zi : k.toInt ≠ i.toInt := fun q => z (toInt_inj q)
            have ne := fun q => z (fm_inj1 hc kl il q)
            rw [gI_nwO, gI_nwO, if_neg (fun q => ne q.2), if_neg (fun q => ne q.2)]
            exact A k kl.1 (by rw [i32_lt]; omega)
        · rw [i32_le] at a
          have kl : 0 ≤ k ∧ k < 200 := ⟨by rw [i32_le]; omega, b⟩
          have z : k ≠ i := fun q => by
            rw [q] at a
            omega
          rw [gI_nwO, if_neg (fun q => z (fm_inj1 hc kl il q.2))]
          exact B k (by rw [i32_le]; omega) b
  · exact ⟨fun _ _ _ => rfl, fun _ _ _ => rfl, rfl, fun i a b => absurd b (by dsimp only; rw [i32_lt]; rw [i32_le] at a; omega), fun _ _ _ => rfl⟩
def cCi (c : Int32) (s t : S1) : Prop :=
  (∀ f j, (149 ≤ f / 128 ∧ f / 128 ≤ 151 → j ≠ c) → (f / 128 = 152 → ∀ i, 0 ≤ i → i < 200 → j ≠ c * 200 + i) → (f = 19587 → j ≠ c) → gI t f j = gI s f j) ∧
  (∀ f j, (f / 128 = 152 → ∀ i, 0 ≤ i → i < 200 → j ≠ c * 200 + i) → gL t f j = gL s f j) ∧
  (∀ a j k, (149 ≤ a ∧ a ≤ 151 → j ≠ c) → gA t a j k = gA s a j k) ∧ (∀ a j k, (149 ≤ a ∧ a ≤ 151 → j ≠ c) → gB t a j k = gB s a j k) ∧
  gI t 19199 c = 1 ∧ gI t 19327 c = 1 ∧ gI t 19455 c = 1 ∧ gI t 19587 c = c ∧ ∀ i, 0 ≤ i → i < 200 → gI t 19583 (c * 200 + i) = 1 ∧ gI t 19458 (c * 200 + i) = -1
theorem coInit_ok {s : S1} {c : Int32} (hc : 0 ≤ c ∧ c < 32) (hn : gI s 19071 c ≠ 1) (hf : ∀ j, 0 ≤ j → j < 200 → gI s 19583 (c * 200 + j) ≠ 1) (h17 : gI s 16517 0 = -1 ∨ gI s 19583 (gI s 16517 0) = 1) (m : Nat × Nat) (r1 : 203 ≤ m.1) (r2 : 10000 ≤ m.2) :
    ok (M_Co_init m c c) s (fun e t => e.2 = (m.1 - 203, m.2 - 10000) ∧ cCi c s t) := by
  have d : dyF 148 = true := rfl
  have np : ∀ t : S1, gI t 19071 c = gI s 19071 c → ¬ prs t 148 c := fun t e p => by
    have := p.1 d
    rw [show 128 * 148 + 127 = 19071 from rfl, e] at this
    exact hn this
  have k4 : (4000 : Int32).toNatClampNeg = 4000 := rfl
  have k2 : (200 : Int32).toNatClampNeg = 200 := rfl
  simp only [M_Co_init, ok_B, ok_C, ok_R, ok_L, ok_K, ok_GI, ok_GL, ok_PI, ok_PL, ok_AI, ok_AL, ok_SI, ok_SL, ok_CI, cmp_lt, cmp_le, cmp_gt, cmp_ge, cmp_eq, nar0, nar1, Sum.elim_inl, Sum.elim_inr, ok_PzT, ok_PzC, ok_PzP, ok_PrC, ok_PrP, ok_PrF, ok_PrN, ok_Ln, ok_CL, ok_Nw, ok_S, ok_Ks, ok_Nz, k4, k2]
  refine ⟨np _ rfl, ⟨by omega, by omega⟩, np _ ?_, ⟨by omega, by omega⟩, ⟨np _ ?_, fun x hx => ?_⟩, ⟨by omega, by omega⟩, ?_⟩
  · rw [gI_nwR]
    simp
  · rw [gI_nwR, gI_nwR]
    simp
  · rw [gI_nwR, gI_nwR]
    have := hf (Int32.ofNat x) (by rw [i32_le, Int32.toInt_ofNat_of_lt (by omega)]; exact Int.natCast_nonneg _) (by rw [i32_lt, Int32.toInt_ofNat_of_lt (by omega)]; show (x : Int) < 200; omega)
    simpa using this
  · have hb : ∀ f j, (149 ≤ f / 128 ∧ f / 128 ≤ 151 → j ≠ c) → (f = 19587 → j ≠ c) → gI (sI (nwR (nwR (nwR s 149 c 4000) 150 c 4000) 151 c 200) 19587 c c) f j = gI s f j := fun f j a b => by
      rw [gI_sI, gI_nwR, gI_nwR, gI_nwR]
      have n : ∀ g : Nat, 149 ≤ g / 128 ∧ g / 128 ≤ 151 → ¬ (f = g ∧ j = c) := fun g hg z => by
        rw [z.1] at a
        exact a hg z.2
      rw [if_neg (fun z => b z.1 z.2), if_neg (n _ (by decide)), if_neg (n _ (by decide)), if_neg (n _ (by decide)), if_neg (n _ (by decide)), if_neg (n _ (by decide)), if_neg (n _ (by decide))]
    have g1 : gI (sI (nwR (nwR (nwR s 149 c 4000) 150 c 4000) 151 c 200) 19587 c c) 19455 c = 1 := by
      rw [gI_sI, gI_nwR]
      simp
    have g2 : gI (sI (nwR (nwR (nwR s 149 c 4000) 150 c 4000) 151 c 200) 19587 c c) 19327 c = 1 := by
      rw [gI_sI, gI_nwR, gI_nwR]
      simp
    have g3 : gI (sI (nwR (nwR (nwR s 149 c 4000) 150 c 4000) 151 c 200) 19587 c c) 19199 c = 1 := by
      rw [gI_sI, gI_nwR, gI_nwR, gI_nwR]
      simp
    have g4 : gI (sI (nwR (nwR (nwR s 149 c 4000) 150 c 4000) 151 c 200) 19587 c c) 19587 c = c := by
      rw [gI_sI]
      simp
    have hA : ∀ a j k, (149 ≤ a ∧ a ≤ 151 → j ≠ c) → gA (sI (nwR (nwR (nwR s 149 c 4000) 150 c 4000) 151 c 200) 19587 c c) a j k = gA s a j k := fun a j k q => by
      have n : ∀ g : Nat, 149 ≤ g ∧ g ≤ 151 → ¬ (a = g ∧ j = c) := fun g hg z => q (by omega) z.2
      rw [gA_sI, gA_nwR, gA_nwR, gA_nwR, if_neg (n _ (by decide)), if_neg (n _ (by decide)), if_neg (n _ (by decide))]
    have hB : ∀ a j k, (149 ≤ a ∧ a ≤ 151 → j ≠ c) → gB (sI (nwR (nwR (nwR s 149 c 4000) 150 c 4000) 151 c 200) 19587 c c) a j k = gB s a j k := fun a j k q => by
      have n : ∀ g : Nat, 149 ≤ g ∧ g ≤ 151 → ¬ (a = g ∧ j = c) := fun g hg z => q (by omega) z.2
      rw [gB_sI, gB_nwR, gB_nwR, gB_nwR, if_neg (n _ (by decide)), if_neg (n _ (by decide)), if_neg (n _ (by decide))]
    have hL : ∀ f j, gL (sI (nwR (nwR (nwR s 149 c 4000) 150 c 4000) 151 c 200) 19587 c c) f j = gL s f j := fun f j => rfl
    generalize sI (nwR (nwR (nwR s 149 c 4000) 150 c 4000) 151 c 200) 19587 c c = s3 at hb g1 g2 g3 g4 hA hB hL ⊢
    have e17 : gI s3 16517 0 = gI s 16517 0 := hb _ _ (fun z => absurd z (by decide)) (fun z => absurd z (by decide))
    have e83 : ∀ j, gI s3 19583 j = gI s 19583 j := fun j => hb _ _ (fun z => absurd z (by decide)) (fun z => absurd z (by decide))
    refine ok_mono (coLoop_ok (s := s3) hc g1 (fun j a b => by rw [e83]; exact hf j a b) (by rw [e17, e83]; exact h17) _ (by dsimp only; omega) (by dsimp only; omega)) ?_
    rintro e t ⟨rfl, I, L, T, A, -⟩
    have tA : ∀ a j k, gA t a j k = gA s3 a j k := fun a j k => by
      show t.2.2.1 a j k = s3.2.2.1 a j k
      rw [T]
    have tB : ∀ a j k, gB t a j k = gB s3 a j k := fun a j k => by
      show t.2.2.2 a j k = s3.2.2.2 a j k
      rw [T]
    refine ⟨?_, fun f j a b d => (I f j b).trans (hb f j a d), fun f j a => (L f j a).trans (hL f j), fun a j k q => (tA a j k).trans (hA a j k q), fun a j k q => (tB a j k).trans (hB a j k q), ?_, ?_, ?_, ?_, A⟩
    · show (m.1 - 1 - 1 - 1 - 200, m.2 - 4000 - 4000 - 200 - 1800) = _
      rw [Prod.mk.injEq]
      omega
    · exact (I _ _ (fun z => absurd z (by decide))).trans g3
    · exact (I _ _ (fun z => absurd z (by decide))).trans g2
    · exact (I _ _ (fun z => absurd z (by decide))).trans g1
    · exact (I _ _ (fun z => absurd z (by decide))).trans g4
