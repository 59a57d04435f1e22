/-! What is told of values: into the row built. -/
def Sy (s s' : S1) (L : Int) : Prop := (∀ f i, f ≠ 96 → gI s' f i = gI s f i) ∧ (∀ f i, gL s' f i = gL s f i) ∧ (∀ a i j, a ≠ 87 → a ≠ 89 → gA s' a i j = gA s a i j) ∧ (∀ a i j, gB s' a i j = gB s a i j) ∧ (f_builtSize s).toInt ≤ (f_builtSize s').toInt ∧ (f_builtSize s').toInt ≤ (f_builtSize s).toInt + L
theorem Sy.refl (s : S1) : Sy s s 0 := ⟨fun _ _ _ => rfl, fun _ _ => rfl, fun _ _ _ _ _ => rfl, fun _ _ _ => rfl, by omega, by omega⟩
theorem Sy.trans {a b c : S1} {L M : Int} (h : Sy a b L) (k : Sy b c M) : Sy a c (L + M) := by
  obtain ⟨h1, h2, h3, h4, h5, h6⟩ := h
  obtain ⟨k1, k2, k3, k4, k5, k6⟩ := k
  exact ⟨fun f i q => (k1 f i q).trans (h1 f i q), fun f i => (k2 f i).trans (h2 f i), fun x i j q r => (k3 x i j q r).trans (h3 x i j q r), fun x i j => (k4 x i j).trans (h4 x i j), by omega, by omega⟩
theorem Sy.le {a b : S1} {L M : Int} (h : Sy a b L) (hl : L ≤ M) : Sy a b M := ⟨h.1, h.2.1, h.2.2.1, h.2.2.2.1, h.2.2.2.2.1, by have := h.2.2.2.2.2; omega⟩
theorem Sy.hx {s s' : S1} {L : Int} (h : Sy s s' L) : Hx0 s s' := by
  refine ⟨fun a i j q => h.2.2.1 a i j ?_ ?_, fun a i j _ => h.2.2.2.1 a i j, fun f i q => h.1 f i ?_, fun f i _ => h.2.1 f i⟩
  · rintro e
    subst e
    exact absurd q (by decide)
  · rintro e
    subst e
    exact absurd q (by decide)
  · rintro e
    subst e
    exact absurd q (by decide)
theorem Sy.hy {s s' : S1} {L : Int} (h : Sy s s' L) : Hy s s' := by
  refine ⟨fun f i q => h.1 f i ?_, fun a i j q => h.2.2.1 a i j ?_ ?_, fun i j => h.2.2.2.1 3 i j⟩
  · rintro e
    subst e
    exact absurd q (by decide)
  · rintro e
    subst e
    exact absurd q (by decide)
  · rintro e
    subst e
    exact absurd q (by decide)
theorem Sy.hs {s s' : S1} {L : Int} (h : Sy s s' L) : Hs s s' := h.hx.hw.hs
theorem say_ok (s : S1) (x : Int32) (h0 : 0 ≤ (f_builtSize s).toInt ∧ (f_builtSize s).toInt < 266800) : ok (M_Mo_say x) s (fun _ s' => Sy s s' 1) := by
  have c0 : (0 : Int32).toInt = 0 := rfl
  have c1 : (1 : Int32).toInt = 1 := rfl
  have c2 : (266800 : Int32).toInt = 266800 := rfl
  have y := tI_add (a := gI s 96 0) (b := 1) (by rw [c1]; simp only [f_builtSize] at h0; omega)
  simp only [M_Mo_say, ok_B, ok_C, ok_R, ok_L, ok_K, ok_GI, ok_GL, ok_PI, ok_PL, ok_AI, ok_AL, ok_SI, ok_SL, ok_Pr, ok_CI, cmp_lt, cmp_le, cmp_gt, cmp_ge, cmp_eq, nar0, nar1, Sum.elim_inl, Sum.elim_inr]
  refine ⟨⟨?_, ?_⟩, fun f i q => ?_, fun _ _ => rfl, fun a i j q _ => ?_, fun _ _ _ => rfl, ?_, ?_⟩
  · rw [i32_le, c0]
    exact h0.1
  · rw [i32_lt, c2]
    exact h0.2
  · simp only [gI_sI, gI_sL, gI_sA, gI_sB, gI_sAf, gI_sBf, gL_sI, gL_sL, gL_sA, gL_sB, gL_sAf, gL_sBf, gA_sI, gA_sL, gA_sA, gA_sB, gA_sAf, gA_sBf, gB_sI, gB_sL, gB_sA, gB_sB, gB_sAf, gB_sBf, Nat.reduceEqDiff, Nat.reduceMul, Nat.reduceAdd, false_and, true_and, and_true, and_false, if_true, if_false, q]
  · simp only [gI_sI, gI_sL, gI_sA, gI_sB, gI_sAf, gI_sBf, gL_sI, gL_sL, gL_sA, gL_sB, gL_sAf, gL_sBf, gA_sI, gA_sL, gA_sA, gA_sB, gA_sAf, gA_sBf, gB_sI, gB_sL, gB_sA, gB_sB, gB_sAf, gB_sBf, Nat.reduceEqDiff, Nat.reduceMul, Nat.reduceAdd, false_and, true_and, and_true, and_false, if_true, if_false, q]
  · simp only [f_builtSize, gI_sI, gI_sL, gI_sA, gI_sB, gI_sAf, gI_sBf, gL_sI, gL_sL, gL_sA, gL_sB, gL_sAf, gL_sBf, gA_sI, gA_sL, gA_sA, gA_sB, gA_sAf, gA_sBf, gB_sI, gB_sL, gB_sA, gB_sB, gB_sAf, gB_sBf, Nat.reduceEqDiff, Nat.reduceMul, Nat.reduceAdd, false_and, true_and, and_true, and_false, if_true, if_false]
    rw [y, c1]
    omega
  · simp only [f_builtSize, gI_sI, gI_sL, gI_sA, gI_sB, gI_sAf, gI_sBf, gL_sI, gL_sL, gL_sA, gL_sB, gL_sAf, gL_sBf, gA_sI, gA_sL, gA_sA, gA_sB, gA_sAf, gA_sBf, gB_sI, gB_sL, gB_sA, gB_sB, gB_sAf, gB_sBf, Nat.reduceEqDiff, Nat.reduceMul, Nat.reduceAdd, false_and, true_and, and_true, and_false, if_true, if_false]
    rw [y, c1]
    omega
theorem sayC_ok (s : S1) (t : Nat) (hl : 0 ≤ (stLI t).toInt ∧ (stLI t).toInt ≤ 20) (h0 : 0 ≤ (f_builtSize s).toInt ∧ (f_builtSize s).toInt + 20 ≤ 266800) : ok (M_Mo_say__ t) s (fun _ s' => Sy s s' 20) := by
  have c0 : (0 : Int32).toInt = 0 := rfl
  have c1 : (1 : Int32).toInt = 1 := rfl
  simp only [M_Mo_say__, ok_B, ok_C, ok_R, ok_L, ok_K, ok_GI, ok_GL, ok_PI, ok_PL, ok_AI, ok_AL, ok_SI, ok_SL, ok_Pr, ok_CI, cmp_lt, cmp_le, cmp_gt, cmp_ge, cmp_eq, nar0, nar1, Sum.elim_inl, Sum.elim_inr]
  refine ok_W (fun x s' => x.1 = t ∧ 0 ≤ x.2.toInt ∧ x.2.toInt ≤ (stLI t).toInt ∧ Sy s s' x.2.toInt) (fun x _ => ((stLI t).toInt - x.2.toInt).toNat) ?_ _ _ ⟨rfl, by show (0 : Int) ≤ (0 : Int32).toInt; rw [c0]; decide, by show (0 : Int32).toInt ≤ _; rw [c0]; exact hl.1, Sy.refl s⟩
  rintro ⟨t', k⟩ s1 ⟨e1, k1, k2, sy⟩
  dsimp only at e1 k1 k2 sy
  subst e1
  simp only [M_Mo_say___L2, ok_B, ok_C, ok_R, ok_L, ok_K, ok_GI, ok_GL, ok_PI, ok_PL, ok_AI, ok_AL, ok_SI, ok_SL, ok_Pr, ok_CI, cmp_lt, cmp_le, cmp_gt, cmp_ge, cmp_eq, nar0, nar1, Sum.elim_inl, Sum.elim_inr]
  refine ⟨fun c => sy.le (by omega), fun c => ?_⟩
  have hk := Int32.not_le.mp c
  have hk' := hk
  rw [i32_lt] at hk'
  have b5 := sy.2.2.2.2
  have y := tI_add (a := k) (b := 1) (by rw [c1]; omega)
  refine ⟨⟨by rw [i32_le, c0]; exact k1, hk⟩, ok_mono (say_ok s1 _ ⟨by omega, by omega⟩) fun _ s2 sy2 => ⟨⟨by trivial, by rw [y, c1]; omega, by rw [y, c1]; omega, ?_⟩, ?_⟩⟩
  · rw [y, c1]
    exact sy.trans sy2
  · rw [y, c1]
    omega
theorem digits_ok (s : S1) (v : Int64) : ok (oW M_Mo_sayNumber_L5 (v, 0, v)) s (fun e s' => e.1 = v ∧ (0 ≤ e.2.toInt ∧ e.2.toInt ≤ 20) ∧ Sy s s' 0) := by
  have c0 : (0 : Int32).toInt = 0 := rfl
  have c1 : (1 : Int32).toInt = 1 := rfl
  have c24 : (24 : Int32).toInt = 24 := rfl
  have z0 : (0 : Int64).toInt = 0 := rfl
  have z10 : (10 : Int64).toInt = 10 := rfl
  have v1 := Int64.le_toInt v
  have v2 := Int64.toInt_lt v
  refine ok_W (fun x s' => x.1 = v ∧ (∃ n : Nat, x.2.1.toInt = (n : Int) ∧ n ≤ 19 ∧ x.2.2.toInt.natAbs < 10 ^ (19 - n)) ∧ Sy s s' 0) (fun x _ => x.2.2.toInt.natAbs) ?_ _ _ ⟨rfl, ⟨0, rfl, by decide, ?_⟩, Sy.refl s⟩
  · rintro ⟨v', n', l⟩ s1 ⟨e1, ⟨n, e2, n1, n2⟩, sy⟩
    dsimp only at e1 e2 n2
    subst e1
    simp only [M_Mo_sayNumber_L5, M_Mth_abs, ok_B, ok_C, ok_R, ok_L, ok_K, ok_GI, ok_GL, ok_PI, ok_PL, ok_AI, ok_AL, ok_SI, ok_SL, ok_Pr, ok_CI, cmp_lt, cmp_le, cmp_gt, cmp_ge, cmp_eq, nar0, nar1, Sum.elim_inl, Sum.elim_inr]
    have y := tI_add (a := n') (b := 1) (by rw [c1]; omega)
    obtain ⟨q, r, k1, k2, k3, k4⟩ := tdiv_key l.toInt 10 (by decide)
    have l1 := Int64.le_toInt l
    have l2 := Int64.toInt_lt l
    have eq : (l / 10).toInt = q := by
      rw [Int64.toInt_div, z10, k1]
      refine Int.bmod_eq_of_le ?_ ?_
      · by_cases c : 0 ≤ l.toInt
        · have := k3 c
          omega
        · have := k4 (by omega)
          omega
      · by_cases c : 0 ≤ l.toInt
        · have := k3 c
          omega
        · have := k4 (by omega)
          omega
    have hb : 0 ≤ n' ∧ n' < 24 := by
      rw [i32_le, i32_lt, c0, c24, e2]
      omega
    have hq : ∀ x, Sy s1 (sA s1 89 0 n' x) 0 := fun x => ⟨fun _ _ _ => rfl, fun _ _ => rfl, fun a i j _ p => by simp only [gI_sI, gI_sL, gI_sA, gI_sB, gI_sAf, gI_sBf, gL_sI, gL_sL, gL_sA, gL_sB, gL_sAf, gL_sBf, gA_sI, gA_sL, gA_sA, gA_sB, gA_sAf, gA_sBf, gB_sI, gB_sL, gB_sA, gB_sB, gB_sAf, gB_sBf, Nat.reduceEqDiff, Nat.reduceMul, Nat.reduceAdd, false_and, true_and, and_true, and_false, if_true, if_false, p], fun _ _ _ => rfl, by show (gI s1 96 0).toInt ≤ (gI s1 96 0).toInt; omega, by show (gI s1 96 0).toInt ≤ (gI s1 96 0).toInt + 0; omega⟩
    have small : q.natAbs * 10 ≤ l.toInt.natAbs := by
      by_cases c : 0 ≤ l.toInt
      · have := k3 c
        omega
      · have := k4 (by omega)
        omega
    have fin : ∀ x, (l / 10 = 0 → True ∧ (0 ≤ (n' + 1).toInt ∧ (n' + 1).toInt ≤ 20) ∧ Sy s (sA s1 89 0 n' x) 0) ∧ (¬ l / 10 = 0 → (True ∧ (∃ m : Nat, (n' + 1).toInt = (m : Int) ∧ m ≤ 19 ∧ (l / 10).toInt.natAbs < 10 ^ (19 - m)) ∧ Sy s (sA s1 89 0 n' x) 0) ∧ (l / 10).toInt.natAbs < l.toInt.natAbs) := fun x => by
      refine ⟨fun _ => ⟨trivial, by rw [y, c1, e2]; omega, (sy.trans (hq x)).le (by omega)⟩, fun d => ?_⟩
      have hq0 : q ≠ 0 := fun e => d (by rw [← Int64.toInt_inj, eq, e, z0])
      have n18 : n ≤ 18 := by
        apply Nat.le_of_not_lt
        intro w
        have e19 : 19 - n = 0 := by omega
        rw [e19] at n2
        have : l.toInt.natAbs < 1 := n2
        omega
      have ep : 10 ^ (19 - n) = 10 ^ (19 - (n + 1)) * 10 := by
        rw [← Nat.pow_succ]
        congr 1
        omega
      rw [ep] at n2
      rw [eq]
      refine ⟨⟨trivial, ⟨n + 1, by rw [y, c1, e2]; omega, by omega, by omega⟩, (sy.trans (hq x)).le (by omega)⟩, by omega⟩
    exact ⟨fun _ => ⟨hb, fin _⟩, fun _ => ⟨hb, fin _⟩⟩
  · show v.toInt.natAbs < 10 ^ 19
    omega
theorem tell_ok (s : S1) (n : Int32) (hn : 0 ≤ n.toInt ∧ n.toInt ≤ 20) (h0 : 0 ≤ (f_builtSize s).toInt ∧ (f_builtSize s).toInt + 20 ≤ 266800) : ok (oW M_Mo_sayNumber_L56 n) s (fun _ s' => Sy s s' 20) := by
  have c0 : (0 : Int32).toInt = 0 := rfl
  have cm : (-1 : Int32).toInt = -1 := rfl
  have c24 : (24 : Int32).toInt = 24 := rfl
  refine ok_W (fun x s' => 0 ≤ x.toInt ∧ x.toInt ≤ n.toInt ∧ Sy s s' (n.toInt - x.toInt)) (fun x _ => x.toInt.toNat) ?_ _ _ ⟨hn.1, by omega, (Sy.refl s).le (by omega)⟩
  rintro x s1 ⟨x1, x2, sy⟩
  simp only [M_Mo_sayNumber_L56, ok_B, ok_C, ok_R, ok_L, ok_K, ok_GI, ok_GL, ok_PI, ok_PL, ok_AI, ok_AL, ok_SI, ok_SL, ok_Pr, ok_CI, cmp_lt, cmp_le, cmp_gt, cmp_ge, cmp_eq, nar0, nar1, Sum.elim_inl, Sum.elim_inr]
  refine ⟨fun c => sy.le (by omega), fun c => ?_⟩
  have hx := Int32.not_le.mp c
  rw [i32_lt, c0] at hx
  have y := tI_add (a := x) (b := -1) (by rw [cm]; omega)
  have b5 := sy.2.2.2.2
  refine ⟨⟨by rw [i32_le, c0, y, cm]; omega, by rw [i32_lt, y, cm, c24]; omega⟩, ok_mono (say_ok s1 _ ⟨by omega, by omega⟩) fun _ s2 sy2 => ⟨⟨by rw [y, cm]; omega, by rw [y, cm]; omega, ?_⟩, ?_⟩⟩
  · rw [y, cm]
    exact (sy.trans sy2).le (by omega)
  · rw [y, cm]
    omega
theorem sayNumber_ok (s : S1) (v : Int64) (h0 : 0 ≤ (f_builtSize s).toInt ∧ (f_builtSize s).toInt + 21 ≤ 266800) : ok (M_Mo_sayNumber v) s (fun _ s' => Sy s s' 21) := by
  simp only [M_Mo_sayNumber, ok_B, ok_C, ok_R, ok_L, ok_K, ok_GI, ok_GL, ok_PI, ok_PL, ok_AI, ok_AL, ok_SI, ok_SL, ok_Pr, ok_CI, cmp_lt, cmp_le, cmp_gt, cmp_ge, cmp_eq, nar0, nar1, Sum.elim_inl, Sum.elim_inr]
  refine ok_mono (digits_ok s v) fun e s1 ⟨e1, e2, sy⟩ => ?_
  have b1 := sy.2.2.2.2
  refine ⟨fun _ => ok_mono (tell_ok s1 _ e2 ⟨by omega, by omega⟩) fun _ s2 sy2 => (sy.trans sy2).le (by omega), fun _ => ok_mono (say_ok s1 45 ⟨by omega, by omega⟩) fun _ s2 sy2 => ?_⟩
  have b2 := sy2.2.2.2.2
  exact ok_mono (tell_ok s2 _ e2 ⟨by omega, by omega⟩) fun _ s3 sy3 => ((sy.trans sy2).trans sy3).le (by omega)
/-- how much is told of a value, at most -/
def q_sz (s : S1) (k : Int32) (v : Int64) : Int := if k = 4 then (a_second s v.toInt32).toInt else if k = 3 then 21 else 41
theorem sayValue_ok (s : S1) (k : Int32) (v : Int64) (h : GG s) (hv : Vl false s k v) (h0 : 0 ≤ (f_builtSize s).toInt ∧ (f_builtSize s).toInt + q_sz s k v ≤ 266800) : ok (M_Mo_sayValue k v) s (fun _ s' => Sy s s' (q_sz s k v)) := by
  have hk := hv.kind7
  have lc : ∀ t, t = 46 ∨ t = 70 ∨ t = 71 ∨ t = 72 ∨ t = 73 ∨ t = 74 ∨ t = 75 → 0 ≤ (stLI t).toInt ∧ (stLI t).toInt ≤ 20 := fun t ht => by
    rcases ht with e | e | e | e | e | e | e <;> subst e <;> exact ⟨by decide, by decide⟩
  have pl : 4 ≤ k → ¬ (k = 6 ∧ v < 0) → 0 ≤ v.toInt32 ∧ v.toInt32 < 4100 := fun a b => by
    rcases hv with w | w | w
    · exact absurd (Int32.lt_of_le_of_lt a w.2) (by decide)
    · exact absurd ⟨w.1, w.2.2⟩ b
    · exact ⟨w.2.2.2.2.1, Int32.lt_trans (Int32.lt_of_lt_of_le w.2.2.2.2.2.1 h.used.2) (by decide)⟩
  have zk : k ≠ 4 → k ≠ 3 → q_sz s k v = 41 := fun a b => by
    unfold q_sz
    rw [if_neg a, if_neg b]
  have word : ∀ t, (t = 46 ∨ t = 70 ∨ t = 71 ∨ t = 72 ∨ t = 73 ∨ t = 74 ∨ t = 75) → k ≠ 4 → k ≠ 3 → ok (M_Mo_say__ t) s (fun _ s' => Sy s s' 20) := fun t ht a b => by
    rw [zk a b] at h0
    exact sayC_ok s t (lc t ht) ⟨h0.1, by omega⟩
  have num : ∀ s1 (n : Int64), k ≠ 4 → k ≠ 3 → Sy s s1 20 → ok (M_Mo_sayNumber n) s1 (fun _ s' => Sy s s' (q_sz s k v)) := fun s1 n a b sy => by
    rw [zk a b] at h0 ⊢
    have b1 := sy.2.2.2.2
    exact ok_mono (sayNumber_ok s1 n ⟨by omega, by omega⟩) fun _ s2 sy2 => (sy.trans sy2).le (by omega)
  simp only [M_Mo_sayValue, ok_B, ok_C, ok_R, ok_L, ok_K, ok_GI, ok_GL, ok_PI, ok_PL, ok_AI, ok_AL, ok_SI, ok_SL, ok_Pr, ok_CI, cmp_lt, cmp_le, cmp_gt, cmp_ge, cmp_eq, nar0, nar1, Sum.elim_inl, Sum.elim_inr]
  refine ⟨fun c => ok_mono (word 46 (by decide) (by rw [c]; decide) (by rw [c]; decide)) fun _ s1 sy => sy.le ?_, fun c0 => ⟨fun c => ok_mono (word 70 (by decide) (by rw [c]; decide) (by rw [c]; decide)) fun _ s1 sy => sy.le ?_, fun c1 => ⟨fun c => ok_mono (word 71 (by decide) (by rw [c]; decide) (by rw [c]; decide)) fun _ s1 sy => sy.le ?_, fun c2 => ⟨fun c => ?_, fun c3 => ⟨fun c => ?_, fun c4 => ⟨fun c => ?_, fun c6 => ?_⟩⟩⟩⟩⟩⟩
  · rw [zk (by rw [c]; decide) (by rw [c]; decide)]
    omega
  · rw [zk (by rw [c]; decide) (by rw [c]; decide)]
    omega
  · rw [zk (by rw [c]; decide) (by rw [c]; decide)]
    omega
  · have e : q_sz s k v = 21 := by
      unfold q_sz
      rw [if_neg (by rw [c]; decide), if_pos c]
    rw [e] at h0 ⊢
    exact sayNumber_ok s v h0
  · have hl : Lv false s v.toInt32 4 := by
      have := hv.lv5 (Or.inl c)
      rw [c] at this
      exact this
    obtain ⟨x1, x2, x3, x4⟩ := str_in h hl
    have e : q_sz s k v = (a_second s v.toInt32).toInt := by
      unfold q_sz
      rw [if_pos c]
    rw [e] at h0 ⊢
    have si := sub_in x1 x2 x3
    have k0 : (0 : Int32).toInt = 0 := rfl
    have k4 : (266800 : Int32).toInt = 266800 := rfl
    have x2' := x2
    simp only [i32_le, k0] at x2'
    have y := tI_add (a := gI s 96 0) (b := a_second s v.toInt32) (by simp only [f_builtSize] at h0; omega)
    have y2 := tI_sub (a := 266800) (b := gI s 96 0) (by rw [k4]; simp only [f_builtSize] at h0; omega)
    simp only [M_Mo_say_, ok_B, ok_C, ok_R, ok_L, ok_K, ok_GI, ok_GL, ok_PI, ok_PL, ok_AI, ok_AL, ok_SI, ok_SL, ok_Pr, ok_CI, cmp_lt, cmp_le, cmp_gt, cmp_ge, cmp_eq, nar0, nar1, Sum.elim_inl, Sum.elim_inr]
    simp only [f_builtSize] at h0
    refine ⟨x4, x4, ⟨x1.1, ?_, x2.1, si.1, si.2, ?_, ?_⟩, fun f i q => ?_, fun _ _ => rfl, fun a i j q _ => ?_, fun _ _ _ => rfl, ?_, ?_⟩
    · rw [i32_le, k0]
      exact h0.1
    · rw [i32_le, k4]
      omega
    · rw [i32_le, y2, k4]
      show (a_second s v.toInt32).toInt ≤ _
      omega
    · simp only [gI_sI, gI_sL, gI_sA, gI_sB, gI_sAf, gI_sBf, gL_sI, gL_sL, gL_sA, gL_sB, gL_sAf, gL_sBf, gA_sI, gA_sL, gA_sA, gA_sB, gA_sAf, gA_sBf, gB_sI, gB_sL, gB_sA, gB_sB, gB_sAf, gB_sBf, Nat.reduceEqDiff, Nat.reduceMul, Nat.reduceAdd, false_and, true_and, and_true, and_false, if_true, if_false, q]
    · simp only [gI_sI, gI_sL, gI_sA, gI_sB, gI_sAf, gI_sBf, gL_sI, gL_sL, gL_sA, gL_sB, gL_sAf, gL_sBf, gA_sI, gA_sL, gA_sA, gA_sB, gA_sAf, gA_sBf, gB_sI, gB_sL, gB_sA, gB_sB, gB_sAf, gB_sBf, Nat.reduceEqDiff, Nat.reduceMul, Nat.reduceAdd, false_and, true_and, and_true, and_false, if_true, if_false, q]
    · simp only [f_builtSize, gI_sI, gI_sL, gI_sA, gI_sB, gI_sAf, gI_sBf, gL_sI, gL_sL, gL_sA, gL_sB, gL_sAf, gL_sBf, gA_sI, gA_sL, gA_sA, gA_sB, gA_sAf, gA_sBf, gB_sI, gB_sL, gB_sA, gB_sB, gB_sAf, gB_sBf, Nat.reduceEqDiff, Nat.reduceMul, Nat.reduceAdd, false_and, true_and, and_true, and_false, if_true, if_false]
      rw [y]
      omega
    · simp only [f_builtSize, gI_sI, gI_sL, gI_sA, gI_sB, gI_sAf, gI_sBf, gL_sI, gL_sL, gL_sA, gL_sB, gL_sAf, gL_sBf, gA_sI, gA_sL, gA_sA, gA_sB, gA_sAf, gA_sBf, gB_sI, gB_sL, gB_sA, gB_sB, gB_sAf, gB_sBf, Nat.reduceEqDiff, Nat.reduceMul, Nat.reduceAdd, false_and, true_and, and_true, and_false, if_true, if_false]
      rw [y]
      omega
  · have n4 : k ≠ 4 := by rw [c]; decide
    have n3 : k ≠ 3 := by rw [c]; decide
    have go : ∀ t, (t = 46 ∨ t = 70 ∨ t = 71 ∨ t = 72 ∨ t = 73 ∨ t = 74 ∨ t = 75) → ok (M_Mo_sayValue_j119 v t) s (fun _ s' => Sy s s' (q_sz s k v)) := fun t ht => by
      simp only [M_Mo_sayValue_j119, M_Mo_sayValue_j145, ok_B, ok_C, ok_R, ok_L, ok_K, ok_GI, ok_GL, ok_PI, ok_PL, ok_AI, ok_AL, ok_SI, ok_SL, ok_Pr, ok_CI, cmp_lt, cmp_le, cmp_gt, cmp_ge, cmp_eq, nar0, nar1, Sum.elim_inl, Sum.elim_inr]
      refine ok_mono (word t ht n4 n3) fun _ s1 sy => ⟨fun d => ⟨pl (by rw [c]; decide) (fun z => absurd z.2 (Int64.not_lt.mpr d)), num s1 _ n4 n3 sy⟩, fun d => num s1 _ n4 n3 sy⟩
    exact ⟨fun _ => go 73 (by decide), fun _ => go 72 (by decide)⟩
  · have n57 : 4 ≤ k ∧ k ≠ 6 := by
      clear hv lc pl zk word num h h0
      exact ⟨by grind, c6⟩
    have n3 : k ≠ 3 := c3
    have go : ∀ t, (t = 46 ∨ t = 70 ∨ t = 71 ∨ t = 72 ∨ t = 73 ∨ t = 74 ∨ t = 75) → ok (M_Mo_sayValue_j166 v t) s (fun _ s' => Sy s s' (q_sz s k v)) := fun t ht => by
      simp only [M_Mo_sayValue_j166, ok_B, ok_C, ok_R, ok_L, ok_K, ok_GI, ok_GL, ok_PI, ok_PL, ok_AI, ok_AL, ok_SI, ok_SL, ok_Pr, ok_CI, cmp_lt, cmp_le, cmp_gt, cmp_ge, cmp_eq, nar0, nar1, Sum.elim_inl, Sum.elim_inr]
      exact ok_mono (word t ht c4 n3) fun _ s1 sy => ⟨pl n57.1 (fun z => n57.2 z.1), num s1 _ c4 n3 sy⟩
    exact ⟨fun _ => go 74 (by decide), fun _ => go 75 (by decide)⟩
