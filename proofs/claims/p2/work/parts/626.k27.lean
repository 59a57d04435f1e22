/-! The class: a new coroutine. -/
theorem coMake_ok {s : S1} {c x : Int32} {v : Int64} (hc : 0 ≤ c ∧ c < 32) (S : cSf s) (m : Nat × Nat) (hm : gI s 19071 c ≠ 1 → 204 ≤ m.1 ∧ 10012 ≤ m.2) {Q : Int32 × (Nat × Nat) → S1 → Prop}
    (hq : ∀ t, cEn c s t → ok (M_He_makeCoroutine_j80 v x c (if gI s 19071 c = 1 then m else (m.1 - 204, m.2 - 10012))) t Q) : ok (M_He_makeCoroutine_j54 v x c m) s Q := by
  have n12 : nfF 153 = 12 := rfl
  have c0 := hc.1
  rw [i32_le] at c0
  have e0 : (0 : Int32).toInt = 0 := rfl
  have em : (-1 : Int32).toInt = -1 := rfl
  have cm : c ≠ -1 := fun z => by
    rw [z] at c0
    omega
  simp only [M_He_makeCoroutine_j54, ok_B, ok_C, ok_R, ok_L, ok_K, ok_GI, ok_GL, ok_PI, ok_PL, ok_AI, ok_AL, ok_SI, ok_SL, ok_CI, cmp_lt, cmp_le, cmp_gt, cmp_ge, cmp_eq, nar0, nar1, Sum.elim_inl, Sum.elim_inr, ok_PzT, ok_PzC, ok_PzP, ok_PrC, ok_PrP, ok_PrF, ok_PrN, ok_Ln, ok_CL, ok_Nw, ok_S, ok_Ks, ok_Nz, Nat.reduceMul, Nat.reduceAdd]
  refine ⟨hc, ?_⟩
  by_cases fl : gI s 19071 c = 1
  · rw [if_pos fl]
    rw [if_pos fl] at hq
    exact ⟨fun z => absurd z cm, fun _ => hq s (cEn.refl S ⟨hc, fl⟩)⟩
  · rw [if_neg fl]
    rw [if_neg fl] at hq
    have nf := (S.1 c hc.1 hc.2).2 fl
    have m' := hm fl
    refine ⟨fun _ => ⟨hc, ⟨nf.1, nf.2.1, nf.2.2.1⟩, ⟨by omega, by omega⟩, ?_⟩, fun z => absurd rfl z⟩
    have o : ∀ f j, f / 128 ≠ 153 → gI (nwO s 153 c) f j = gI s f j := fun f j q => by
      rw [gI_nwO, if_neg (fun z => q z.1)]
    refine ok_mono (coInit_ok (s := nwO s 153 c) hc (by rw [o _ _ (by decide)]; exact fl) (fun j a b => by rw [o _ _ (by decide)]; exact nf.2.2.2 j a b) ?_ _ (by dsimp only; omega) (by dsimp only; omega)) ?_
    · rw [o _ _ (by decide), o _ _ (by decide)]
      exact S.2.2.2.1.imp id (fun w => w.2)
    · rintro ⟨u0, r⟩ t ⟨er, I, L, A, B, f1, f2, f3, f4, f5⟩
      dsimp only at er ⊢
      have nf' : gI t 19071 c ≠ 1 := by
        rw [I _ _ (fun z => absurd z (by decide)) (fun z => absurd z (by decide)) (fun z => absurd z (by decide)), o _ _ (by decide)]
        exact fl
      have pr : ∀ r n, cnF r = n → n = 32 → gI t (128 * r + 127) c = 1 → prs t r c := fun r n e1 e2 g => ⟨fun _ => g, hc.1, by
        rw [e1, e2]
        exact clamp_ltN (n := 32) hc.2 (by decide)⟩
      have nc : ∀ g : Nat, g = 16395 ∨ g = 16516 → gI t g 0 ≠ c := fun g hg z => by
        have w : gI s g 0 = c := by
          rw [← z, I g 0 (fun z => absurd z (by rcases hg with rfl | rfl <;> decide)) (fun z => absurd z (by rcases hg with rfl | rfl <;> decide)) (fun z => absurd z (by rcases hg with rfl | rfl <;> decide)), o _ _ (by rcases hg with rfl | rfl <;> decide)]
        have p : gI s g 0 = -1 ∨ pC s (gI s g 0) := by
          rcases hg with rfl | rfl
          · exact S.2.1
          · exact S.2.2.1
        rw [w] at p
        rcases p with p | p
        · exact cm p
        · exact fl p.2
      refine ⟨⟨hc, pr 149 32 rfl rfl f1, pr 150 32 rfl rfl f2, pr 151 32 rfl rfl f3, fun j hj => ⟨fun _ => (f5 j hj.1 hj.2).1, fm_rng hc hj⟩, nf', nc _ (.inl rfl), nc _ (.inr rfl)⟩, ?_⟩
      have hr : r = (m.1 - 204, m.2 - 10012) := by
        rw [er, n12, Prod.mk.injEq]
        omega
      rw [hr]
      refine hq _ ⟨fun f j a b d => ?_, fun f j a b d => ?_, fun a j k q => A a j k q, fun a j k q => B a j k q, ?_, ⟨?_, ?_, ?_, ?_, fun j a b => ?_⟩, fun i a b => .inl ?_⟩
      · rw [gI_coS, if_neg (fun z => b (by rw [z.1]; decide) z.2), if_neg (fun z => b ⟨by omega, by omega⟩ z.2), if_neg (fun z => a (by rw [z.1])), I f j (fun z => b ⟨by omega, z.2⟩) d (fun z => absurd (by rw [z]) a), o f j a]
      · rw [gL_coS, if_neg (fun z => b z.1 z.2), L f j d, gL_nwO, if_neg (fun z => a z.1)]
      · rw [gI_coS, if_pos ⟨rfl, rfl⟩]
      · rw [gI_coS, if_neg (fun z => absurd z.1 (by decide)), if_neg (fun z => absurd z.1 (by decide)), if_neg (fun z => absurd z.1 (by decide))]
        exact f1
      · rw [gI_coS, if_neg (fun z => absurd z.1 (by decide)), if_neg (fun z => absurd z.1 (by decide)), if_neg (fun z => absurd z.1 (by decide))]
        exact f2
      · rw [gI_coS, if_neg (fun z => absurd z.1 (by decide)), if_neg (fun z => absurd z.1 (by decide)), if_neg (fun z => absurd z.1 (by decide))]
        exact f3
      · rw [gI_coS, if_neg (fun z => absurd z.1 (by decide)), if_pos ⟨by decide, rfl⟩]
        exact f4
      · rw [gI_coS, if_neg (fun z => absurd z.1 (by decide)), if_neg (fun z => absurd z.1 (by decide)), if_neg (fun z => absurd z.1 (by decide))]
        exact (f5 j a b).1
      · rw [gI_coS, if_neg (fun z => absurd z.1 (by decide)), if_neg (fun z => absurd z.1 (by decide)), if_neg (fun z => absurd z.1 (by decide))]
        exact (f5 i a b).2
def cRs (x c : Int32) (v : Int64) (t u : S1) : Prop :=
  (∀ f j, f ≠ 18564 → (f / 128 = 148 → j ≠ c) → gI u f j = gI t f j) ∧ (∀ y, cLk u y = if y = x then c else cLk t y) ∧ (∀ f j, (f / 128 = 148 → j ≠ c) → gL u f j = gL t f j) ∧ (∀ a j k, a ≠ 114 → gA u a j k = gA t a j k) ∧ (∀ a j k, gB u a j k = gB t a j k) ∧ (∀ j, cTl u j = if j = 11 then cTl t 11 + 1 else cTl t j) ∧
  oD u c = 0 ∧ oU u c = 0 ∧ oSl u c = x ∧ gI u 18951 c = 0 ∧ gI u 18952 c = 0 ∧ oFn u c = v ∧ oNo u c = -1 ∧ oRs u c = -1 ∧ gI u 19071 c = gI t 19071 c ∧ gI u 18947 c = gI t 18947 c
theorem co80_ok {t : S1} {c x : Int32} {v : Int64} {m : Nat × Nat} (hc : pC t c) (hx : pT t x) {Q : Int32 × (Nat × Nat) → S1 → Prop} (hq : ∀ u, cRs x c v t u → Q (x, m) u) : ok (M_He_makeCoroutine_j80 v x c m) t Q := by
  simp only [M_He_makeCoroutine_j80, M_Co_restart, ok_B, ok_C, ok_R, ok_L, ok_K, ok_GI, ok_GL, ok_PI, ok_PL, ok_AI, ok_AL, ok_SI, ok_SL, ok_CI, cmp_lt, cmp_le, cmp_gt, cmp_ge, cmp_eq, nar0, nar1, Sum.elim_inl, Sum.elim_inr, ok_PzT, ok_PzC, ok_PzP, ok_PrC, ok_PrP, ok_PrF, ok_PrN, ok_Ln, ok_CL, ok_Nw, ok_S, ok_Ks, ok_Nz, gI_sI, gI_sL, gI_sA, gI_sB, gI_sAf, gI_sBf, gL_sI, gL_sL, gL_sA, gL_sB, gL_sAf, gL_sBf, gA_sI, gA_sL, gA_sA, gA_sB, gA_sAf, gA_sBf, gB_sI, gB_sL, gB_sA, gB_sB, gB_sAf, gB_sBf, Nat.reduceEqDiff, Nat.reduceMul, Nat.reduceAdd, false_and, true_and, and_true, and_false, if_true, if_false]
  refine ⟨hc, hx, by decide, by decide, hq _ ⟨fun f j a b => ?_, fun y => ?_, fun f j b => ?_, fun a j k q => ?_, fun a j k => rfl, fun j => ?_, ?_, ?_, ?_, ?_, ?_, ?_, ?_, ?_, ?_, ?_⟩⟩
  · have n : ∀ g : Nat, g / 128 = 148 → ¬ (f = g ∧ j = c) := fun g hg z => b (by rw [z.1]; exact hg) z.2
    simp only [gI_sI, gI_sL, gI_sA]
    rw [if_neg (fun z => a z.1), if_neg (n _ (by decide)), if_neg (n _ (by decide)), if_neg (n _ (by decide)), if_neg (n _ (by decide)), if_neg (n _ (by decide)), if_neg (n _ (by decide)), if_neg (n _ (by decide))]
  · simp only [cLk, gI_sI, gI_sL, gI_sA, gI_sB, gI_sAf, gI_sBf, gL_sI, gL_sL, gL_sA, gL_sB, gL_sAf, gL_sBf, gA_sI, gA_sL, gA_sA, gA_sB, gA_sAf, gA_sBf, gB_sI, gB_sL, gB_sA, gB_sB, gB_sAf, gB_sBf, Nat.reduceEqDiff, Nat.reduceMul, Nat.reduceAdd, false_and, true_and, and_true, and_false, if_true, if_false]
  · have n : ¬ (f = 18953 ∧ j = c) := fun z => b (by rw [z.1]) z.2
    simp only [gL_sI, gL_sL, gL_sA]
    rw [if_neg n]
  · simp only [gA_sI, gA_sL, gA_sA]
    rw [if_neg (fun z => q z.1)]
  · simp only [cTl, gI_sI, gI_sL, gI_sA, gI_sB, gI_sAf, gI_sBf, gL_sI, gL_sL, gL_sA, gL_sB, gL_sAf, gL_sBf, gA_sI, gA_sL, gA_sA, gA_sB, gA_sAf, gA_sBf, gB_sI, gB_sL, gB_sA, gB_sB, gB_sAf, gB_sBf, Nat.reduceEqDiff, Nat.reduceMul, Nat.reduceAdd, false_and, true_and, and_true, and_false, if_true, if_false]
  all_goals simp only [oD, oU, oSl, oFn, oNo, oRs, gI_sI, gI_sL, gI_sA, gI_sB, gI_sAf, gI_sBf, gL_sI, gL_sL, gL_sA, gL_sB, gL_sAf, gL_sBf, gA_sI, gA_sL, gA_sA, gA_sB, gA_sAf, gA_sBf, gB_sI, gB_sL, gB_sA, gB_sB, gB_sAf, gB_sBf, Nat.reduceEqDiff, Nat.reduceMul, Nat.reduceAdd, false_and, true_and, and_true, and_false, if_true, if_false]
def cNc (x c : Int32) (s t : S1) : Prop := cLv false t x 7 ∧ (∀ y u, u ≠ 0 → cLv false s y u → cLv false t y u ∧ y ≠ x) ∧ (∀ f j, f ≠ 14209 ∧ f ≠ 14211 ∧ f / 128 ≠ 153 → (145 ≤ f / 128 ∧ f / 128 ≤ 147 → j ≠ x) → (148 ≤ f / 128 ∧ f / 128 ≤ 151 → j ≠ c) → (f / 128 = 152 → ∀ i, 0 ≤ i → i < 200 → j ≠ c * 200 + i) → gI t f j = gI s f j) ∧ (∀ f j, f / 128 ≠ 153 → (f / 128 = 145 → j ≠ x) → (f / 128 = 148 → j ≠ c) → (f / 128 = 152 → ∀ i, 0 ≤ i → i < 200 → j ≠ c * 200 + i) → gL t f j = gL s f j) ∧ (∀ a j k, a ≠ 114 → (149 ≤ a ∧ a ≤ 151 → j ≠ c) → gA t a j k = gA s a j k) ∧ (∀ a j k, (149 ≤ a ∧ a ≤ 151 → j ≠ c) → gB t a j k = gB s a j k) ∧ ∀ y u, u ≠ 0 → y ≠ x → cLv false t y u → cLv false s y u
def cNi (x c : Int32) (v : Int64) (s t : S1) : Prop := (0 ≤ c ∧ c < 32) ∧ (pC s c → oSl s c < 0) ∧ gI t 19071 c = 1 ∧ cLk t x = c ∧ oD t c = 0 ∧ oU t c = 0 ∧ oSl t c = x ∧ gI t 18951 c = 0 ∧ gI t 18952 c = 0 ∧ oFn t c = v ∧ oNo t c = -1 ∧ oRs t c = -1
theorem cRt.up2 {s t : S1} (R : cRt s) (up : ∀ y u, u ≠ 0 → cLv false s y u → cLv false t y u) (n : cRn t) (hI : ∀ f, f = 16394 ∨ f = 18050 ∨ f = 17666 ∨ f = 16898 ∨ f = 12938 → gI t f 0 = gI s f 0) (hA : ∀ a j k, rtA a → gA t a j k = gA s a j k) (hB : ∀ a j k, rtB a → gB t a j k = gB s a j k) (hy : ∀ y, cLv false s y 4 → cSy t y = cSy s y) : cRt t := by
  obtain ⟨R1, -, R3, R4, R5, R6, R7⟩ := R
  have cv : ∀ k v, cV (cLv false s) k v → cV (cLv false t) k v := fun k v => cV.up up
  refine ⟨?_, n, R3.up cv ?_ (fun j => ?_) (fun j => hB _ _ _ (by unfold rtB; decide)), R4.up cv ?_ (fun j => ?_) (fun j => hB _ _ _ (by unfold rtB; decide)), R5.up cv ?_ (fun j => ?_) (fun j => hB _ _ _ (by unfold rtB; decide)), fun i a b => ?_, fun i a b => ?_⟩
  · rw [hI 16394 (by decide)]
    exact up _ _ (by decide) R1
  · exact hI _ (by decide)
  · exact hA _ _ _ (by unfold rtA; decide)
  · exact hI _ (by decide)
  · exact hA _ _ _ (by unfold rtA; decide)
  · exact hI _ (by decide)
  · exact hA _ _ _ (by unfold rtA; decide)
  · rw [hA 115 0 i (by unfold rtA; decide)]
    have w := R6 i a b
    exact ⟨up _ _ (by decide) w.1, by rw [hy _ w.1]; exact w.2⟩
  · rw [hI 12938 (by decide)] at b
    rw [hA 105 0 i (by unfold rtA; decide), hB 106 0 i (by unfold rtB; decide)]
    have w := R7 i a b
    refine ⟨w.1, fun q => ⟨(w.2 q).1, up _ _ (by decide) (w.2 q).2.1, ?_⟩⟩
    rw [hy _ (w.2 q).2.1]
    exact (w.2 q).2.2
