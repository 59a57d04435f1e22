/-! The beginning: words, constants. -/
/-- a step of the beginning: the row w and the word alone are written beside the heap -/
def Bq (w : Nat) (s s' : S1) : Prop := GG s' ∧ f_noCollection s' = f_noCollection s ∧ v_hand_n s' = v_hand_n s ∧ (∀ t, t_place s t < 0 → t_place s' t < 0) ∧ (∀ f i, fzI f = true → gI s' f i = gI s f i) ∧ (∀ a i j, fzA a = true → a ≠ w → a ≠ 86 → gA s' a i j = gA s a i j) ∧ (∀ a i j, fzB a = true → (a = 3 → w ≠ 3) → gB s' a i j = gB s a i j) ∧ (∀ x k, Lv false s x k → k ≠ 0 → Lv false s' x k ∧ a_second s' x = a_second s x ∧ a_third s' x = a_third s x) ∧ (∀ x, FL s x → FL s' x) ∧ f_rooms s' = f_rooms s ∧ Td s s'
theorem Bq.refl (w : Nat) {s : S1} (h : GG s) : Bq w s s := ⟨h, rfl, rfl, fun _ q => q, fun _ _ _ => rfl, fun _ _ _ _ _ _ => rfl, fun _ _ _ _ _ => rfl, fun _ _ q _ => ⟨q, rfl, rfl⟩, fun _ q => q, rfl, Or.inl rfl⟩
theorem Bq.trans {w : Nat} {a b c : S1} (h : Bq w a b) (k : Bq w b c) : Bq w a c := by
  obtain ⟨h1, h2, h3, h4, h5, h6, h7, h8, h9, h10, h11⟩ := h
  obtain ⟨k1, k2, k3, k4, k5, k6, k7, k8, k9, k10, k11⟩ := k
  refine ⟨k1, k2.trans h2, k3.trans h3, fun t q => k4 t (h4 t q), fun f i q => (k5 f i q).trans (h5 f i q), fun x i j p q r => (k6 x i j p q r).trans (h6 x i j p q r), fun x i j p q => (k7 x i j p q).trans (h7 x i j p q), fun x m p q => ?_, fun x q => k9 x (h9 x q), k10.trans h10, h11.trans k11⟩
  obtain ⟨a1, a2, a3⟩ := h8 x m p q
  obtain ⟨b1, b2, b3⟩ := k8 x m a1 q
  exact ⟨b1, b2.trans a2, b3.trans a3⟩
theorem Bq.mdx {s s' : S1} {k v : Int32} {E : S1 → S1 → Int32 → Prop} (w : Nat) (h : GG s) (hz : f_noCollection s ≠ 0) (md : Mdx s k E v s') (kz : gI s' 36 0 = gI s 36 0) (kw : ∀ t, gI s 3584 t < 0 → gI s' 3584 t < 0) : Bq w s s' := by
  have nx := Nx.mdx h md
  have fz := nx.2.1
  refine ⟨md.1, fz.I 92 (by decide) 0, ?_, kw, fz.1, fun a i j p _ _ => fz.2.2.1 a i j p, fun a i j p _ => fz.2.2.2 a i j p, fun x m p q => ⟨nx.2.2.2.1 hz x m p q, ?_⟩, nx.2.2.2.2.1, kz, nx.2.2.2.2.2⟩
  · rcases md.2 with ⟨_, gx, _⟩ | ⟨s0, _, gc, _, hM, _⟩
    · exact gx.I 2050 (by decide) 0
    · exact (hM.I 2050 (by decide) 0).trans (gc.I 2050 (by decide) 0)
  · rcases md.2 with ⟨_, gx, _⟩ | ⟨s0, _, gc, kl, hM, _⟩
    · exact ⟨gx.A 63 (by decide) 0 x, gx.A 64 (by decide) 0 x⟩
    · have l0 := (kl.2 hz).1 x m p
      have e := hM.P (hM.ne l0 q)
      exact ⟨e.2.1.trans (gc.x.A 63 (by decide) 0 x), e.2.2.1.trans (gc.x.A 64 (by decide) 0 x)⟩
theorem Bq.row {s : S1} {w : Nat} {i v : Int32} (h : GG s) (hw : w = 82 ∨ w = 83 ∨ w = 84 ∨ w = 85 ∨ w = 86) : Bq w s (sA s w 0 i v) := by
  have lw : ∀ y k, Lv false (sA s w 0 i v) y k ↔ Lv false s y k := fun y k => by
    unfold Lv
    rcases hw with e | e | e | e | e <;> subst e <;> simp only [f_used, a_sort, a_marked, gI_sI, gI_sL, gI_sA, gI_sB, gI_sAf, gI_sBf, gL_sI, gL_sL, gL_sA, gL_sB, gL_sAf, gL_sBf, gA_sI, gA_sL, gA_sA, gA_sB, gA_sAf, gA_sBf, gB_sI, gB_sL, gB_sA, gB_sB, gB_sAf, gB_sBf, Nat.reduceEqDiff, Nat.reduceMul, Nat.reduceAdd, false_and, true_and, and_true, and_false, if_true, if_false]
  have gx : GG (sA s w 0 i v) := by
    rcases hw with e | e | e | e | e <;> subst e <;> exact h.hx ((Hx0.refl s).sA (by decide))
  refine ⟨gx, rfl, rfl, fun _ q => q, fun _ _ _ => rfl, fun a u j p q r => ?_, fun _ _ _ _ _ => rfl, fun x m p q => ⟨(lw x m).mpr p, ?_, ?_⟩, fun x q => ⟨(lw x 4).mpr q.1, ?_⟩, rfl, Or.inl rfl⟩
  · rw [gA_sA, if_neg (fun z => q z.1)]
  · rcases hw with e | e | e | e | e <;> subst e <;> simp only [a_second, gI_sI, gI_sL, gI_sA, gI_sB, gI_sAf, gI_sBf, gL_sI, gL_sL, gL_sA, gL_sB, gL_sAf, gL_sBf, gA_sI, gA_sL, gA_sA, gA_sB, gA_sAf, gA_sBf, gB_sI, gB_sL, gB_sA, gB_sB, gB_sAf, gB_sBf, Nat.reduceEqDiff, Nat.reduceMul, Nat.reduceAdd, false_and, true_and, and_true, and_false, if_true, if_false]
  · rcases hw with e | e | e | e | e <;> subst e <;> simp only [a_third, gI_sI, gI_sL, gI_sA, gI_sB, gI_sAf, gI_sBf, gL_sI, gL_sL, gL_sA, gL_sB, gL_sAf, gL_sBf, gA_sI, gA_sL, gA_sA, gA_sB, gA_sAf, gA_sBf, gB_sI, gB_sL, gB_sA, gB_sB, gB_sAf, gB_sBf, Nat.reduceEqDiff, Nat.reduceMul, Nat.reduceAdd, false_and, true_and, and_true, and_false, if_true, if_false]
  · have q2 := q.2
    rcases hw with e | e | e | e | e <;> subst e <;> simp only [a_fixed, gI_sI, gI_sL, gI_sA, gI_sB, gI_sAf, gI_sBf, gL_sI, gL_sL, gL_sA, gL_sB, gL_sAf, gL_sBf, gA_sI, gA_sL, gA_sA, gA_sB, gA_sAf, gA_sBf, gB_sI, gB_sL, gB_sA, gB_sB, gB_sAf, gB_sBf, Nat.reduceEqDiff, Nat.reduceMul, Nat.reduceAdd, false_and, true_and, and_true, and_false, if_true, if_false] at * <;> exact q2
theorem Bq.any {w : Nat} {s s' : S1} (h : Bq 86 s s') : Bq w s s' := by
  obtain ⟨h1, h2, h3, h4, h5, h6, h7, h8, h9, h10⟩ := h
  exact ⟨h1, h2, h3, h4, h5, fun a i j p _ r => h6 a i j p r r, fun a i j p _ => h7 a i j p (fun _ => by decide), h8, h9, h10⟩
theorem Bq.fix {w : Nat} {s : S1} {x : Int32} (h : GG s) (hz : f_noCollection s ≠ 0) (hx : Lv false s x 4) : Bq w s (sA s 60 0 x 1) ∧ FL (sA s 60 0 x 1) x := by
  have lw : ∀ y k, Lv false (sA s 60 0 x 1) y k ↔ Lv false s y k := fun y k => by
    unfold Lv
    simp only [f_used, a_sort, a_marked, gI_sI, gI_sL, gI_sA, gI_sB, gI_sAf, gI_sBf, gL_sI, gL_sL, gL_sA, gL_sB, gL_sAf, gL_sBf, gA_sI, gA_sL, gA_sA, gA_sB, gA_sAf, gA_sBf, gB_sI, gB_sL, gB_sA, gB_sB, gB_sAf, gB_sBf, Nat.reduceEqDiff, Nat.reduceMul, Nat.reduceAdd, false_and, true_and, and_true, and_false, if_true, if_false]
  refine ⟨⟨h.fix hz, rfl, rfl, fun _ q => q, fun _ _ _ => rfl, fun a u j p q r => ?_, fun _ _ _ _ _ => rfl, fun y m p q => ⟨(lw y m).mpr p, ?_, ?_⟩, fun y q => ⟨(lw y 4).mpr q.1, ?_⟩, rfl, Or.inl rfl⟩, (lw x 4).mpr hx, ?_⟩
  · rw [gA_sA, if_neg]
    rintro ⟨e, -⟩
    rw [e] at p
    exact absurd p (by decide)
  · simp only [a_second, gI_sI, gI_sL, gI_sA, gI_sB, gI_sAf, gI_sBf, gL_sI, gL_sL, gL_sA, gL_sB, gL_sAf, gL_sBf, gA_sI, gA_sL, gA_sA, gA_sB, gA_sAf, gA_sBf, gB_sI, gB_sL, gB_sA, gB_sB, gB_sAf, gB_sBf, Nat.reduceEqDiff, Nat.reduceMul, Nat.reduceAdd, false_and, true_and, and_true, and_false, if_true, if_false]
  · simp only [a_third, gI_sI, gI_sL, gI_sA, gI_sB, gI_sAf, gI_sBf, gL_sI, gL_sL, gL_sA, gL_sB, gL_sAf, gL_sBf, gA_sI, gA_sL, gA_sA, gA_sB, gA_sAf, gA_sBf, gB_sI, gB_sL, gB_sA, gB_sB, gB_sAf, gB_sBf, Nat.reduceEqDiff, Nat.reduceMul, Nat.reduceAdd, false_and, true_and, and_true, and_false, if_true, if_false]
  · show gA (sA s 60 0 x 1) 60 0 y ≠ 0
    rw [gA_sA]
    by_cases c : 60 = 60 ∧ (0 : Int32) = 0 ∧ y = x
    · rw [if_pos c]
      decide
    · rw [if_neg c]
      exact q.2
  · show gA (sA s 60 0 x 1) 60 0 x ≠ 0
    rw [gA_sA, if_pos ⟨rfl, rfl, rfl⟩]
    decide
/-- a string is made and fixed, or it could not be -/
theorem strB_ok (w : Nat) (s : S1) (r : Nat) (a n : Int32) (h : GG s) (hz : f_noCollection s ≠ 0) (hdy : dyF r = false) (hu : 0 < cnF r) (ha : 0 ≤ a ∧ a ≤ 400000) (hn : 0 ≤ n ∧ n ≤ 400000) (hn6 : n ≤ 266667) (hl : a + n ≤ lnI r) (hl2 : lnI r ≤ 500000) (hr : (r ≠ 5 ∧ r ≠ 58 ∧ r ≠ 59 ∧ r ≠ 62 ∧ r ≠ 65 ∧ r ≠ 66 ∧ r ≠ 68 ∧ r ≠ 75) ∧ r ≠ 60 ∧ r ≠ 61) : ok (M_Mo_string r 0 a n) s (fun v s' => Bq w s s' ∧ (0 ≤ v → Lv false s' v 4)) := by
  refine ok_mono (((string_x s r 0 a n h hdy ⟨by decide, hu⟩ ha hn hn6 hl hl2 hr).and (kz_Mo_string r 0 a n s)).and (kw_Mo_string r 0 a n s)) fun v s' ⟨⟨m, kz⟩, kw⟩ => ?_
  rcases m with m | ⟨es, lv⟩
  · refine ⟨Bq.mdx w h hz m (kz hz).2 kw, fun v0 => ?_⟩
    rcases m.2 with ⟨e, _⟩ | ⟨s0, _, _, _, _, _, l⟩
    · rw [e] at v0
      exact absurd v0 (by decide)
    · exact l
  · rw [es]
    exact ⟨Bq.refl w h, fun _ => lv⟩
theorem word_num {n i : Int32} (hn : 0 ≤ n ∧ n ≤ 64) (i0 : 0 ≤ i) (c : ¬ n ≤ i) : (0 ≤ i ∧ i < n) ∧ (0 ≤ i ∧ i < 64) ∧ 0 ≤ i + 1 ∧ (n - (i + 1)).toNatClampNeg < (n - i).toNatClampNeg := by
  refine ⟨⟨i0, by grind⟩, ⟨i0, by grind⟩, by grind, clamp_lt (by grind) (by grind)⟩
theorem word_ok (w : Nat) (s : S1) (n : Nat) (h : GG s) (hz : f_noCollection s ≠ 0) (hl : 0 ≤ stLI n ∧ stLI n ≤ 64) : ok (M_Mo_word n) s (fun v s' => Bq w s s' ∧ (0 ≤ v → FL s' v)) := by
  unfold M_Mo_word
  rw [ok_B]
  refine ok_mono (ok_W (Q := fun e s' => e = n ∧ Bq w s s') (fun x s' => x.1 = n ∧ 0 ≤ x.2 ∧ Bq w s s') (fun x _ => (stLI n - x.2).toNatClampNeg) ?_ (n, 0) s ⟨rfl, (show (0 : Int32) ≤ 0 by decide), Bq.refl w h⟩) fun e s1 ⟨ee, b1⟩ => ?_
  · rintro ⟨m, i⟩ z ⟨em, i0, b⟩
    dsimp only at em i0
    rw [em]
    simp only [M_Mo_word_L2, ok_B, ok_C, ok_R, ok_L, ok_K, ok_GI, ok_GL, ok_PI, ok_PL, ok_AI, ok_AL, ok_SI, ok_SL, ok_Pr, ok_CI, cmp_lt, cmp_le, cmp_gt, cmp_ge, cmp_eq, nar0, nar1, Sum.elim_inl, Sum.elim_inr]
    refine ⟨fun _ => ⟨by trivial, b⟩, fun c => ?_⟩
    obtain ⟨n1, n2, n3, n4⟩ := word_num hl i0 c
    refine ⟨n1, n2, ⟨by trivial, n3, b.trans ?_⟩, n4⟩
    exact (Bq.row b.1 (Or.inr (Or.inr (Or.inr (Or.inr rfl))))).any
  · rw [ee, ok_B]
    have z1 : f_noCollection s1 ≠ 0 := by
      rw [b1.2.1]
      exact hz
    refine ok_mono (strB_ok w s1 86 0 (stLI n) b1.1 z1 rfl (by decide) ⟨by decide, by decide⟩ ⟨hl.1, Int32.le_trans hl.2 (by decide)⟩ (Int32.le_trans hl.2 (by decide)) (by rw [Int32.zero_add]; exact hl.2) (by decide) (by decide)) fun v s2 ⟨b2, lv⟩ => ?_
    have b12 := b1.trans b2
    rw [ok_C]
    refine ⟨fun c => ?_, fun c => ?_⟩
    · rw [ok_R]
      exact ⟨b12, fun v0 => absurd (Int32.lt_of_le_of_lt v0 c) Int32.lt_irrefl⟩
    · have lv' := lv (Int32.not_lt.mp c)
      have z2 : f_noCollection s2 ≠ 0 := by
        rw [b12.2.1]
        exact hz
      rw [ok_B, ok_SI]
      refine ⟨lv'.b b2.1, ?_⟩
      rw [nar1, ok_R]
      obtain ⟨b3, fl⟩ := Bq.fix (w := w) b2.1 z2 lv'
      exact ⟨b12.trans b3, fun _ => fl⟩
/-- a row of names: their words -/
theorem words_num {L i : Int32} (hL : L ≤ 64) (i0 : 0 ≤ i) (c : ¬ L ≤ i) : (0 ≤ i ∧ i < L) ∧ 0 ≤ i + 1 ∧ (L - (i + 1)).toNatClampNeg < (L - i).toNatClampNeg ∧ ∀ j, j < i + 1 → j = i ∨ (j ≠ i ∧ j < i) := by
  refine ⟨⟨i0, by grind⟩, by grind, clamp_lt (by grind) (by grind), fun j a => by grind⟩
theorem words_ok (s : S1) (r w : Nat) (h : GG s) (hz : f_noCollection s ≠ 0) (hw : w = 82 ∨ w = 83 ∨ w = 84 ∨ w = 85) (hL : lnI r ≤ 64 ∧ lnI w = lnI r) (hr : dyF r = false ∧ 0 < cnF r) (hb : ∀ i : Int32, 0 ≤ i → i < lnI r → sbF r + i.toNatClampNeg < nSt ∧ 0 ≤ stLI (sbF r + i.toNatClampNeg) ∧ stLI (sbF r + i.toNatClampNeg) ≤ 64) : ok (M_Mo_words r 0 w 0) s (fun v s' => Bq w s s' ∧ (v ≠ 0 → ∀ i, 0 ≤ i → i < lnI r → FL s' (gA s' w 0 i))) := by
  have dw : dyF w = false ∧ 0 < cnF w := by rcases hw with e | e | e | e <;> subst e <;> exact ⟨rfl, by decide⟩
  have wf : fzA w = true := by rcases hw with e | e | e | e <;> subst e <;> rfl
  unfold M_Mo_words
  rw [ok_B]
  refine ok_mono (ok_W (Q := fun y s' => Bq w s s' ∧ (y = Sum.inr () → ∀ i, 0 ≤ i → i < lnI r → FL s' (gA s' w 0 i))) (fun y z => (y.1 = r ∧ y.2.1 = 0 ∧ y.2.2.1 = w ∧ y.2.2.2.1 = 0) ∧ 0 ≤ y.2.2.2.2 ∧ Bq w s z ∧ ∀ i, 0 ≤ i → i < y.2.2.2.2 → FL z (gA z w 0 i)) (fun y _ => (lnI r - y.2.2.2.2).toNatClampNeg) ?_ (r, 0, w, 0, 0) s ⟨⟨rfl, rfl, rfl, rfl⟩, (show (0 : Int32) ≤ 0 by decide), Bq.refl w h, fun i a b => absurd (Int32.lt_of_le_of_lt a b) (show ¬ (0 : Int32) < 0 by decide)⟩) fun y s1 ⟨b, k⟩ => ?_
  · rintro ⟨y1, y2, y3, y4, i⟩ z ⟨⟨e1, e2, e3, e4⟩, i0, b, fl⟩
    dsimp only at e1 e2 e3 e4 i0 fl
    rw [e1, e2, e3, e4]
    have z1 : f_noCollection z ≠ 0 := by
      rw [b.2.1]
      exact hz
    unfold M_Mo_words_L2
    dsimp only
    rw [ok_C]
    refine ⟨fun c => ?_, fun c => ?_⟩
    · rw [ok_R]
      exact ⟨b, fun _ j a d => fl j a (Int32.lt_of_lt_of_le d c)⟩
    obtain ⟨n1, n2, n3, n4⟩ := words_num hL.1 i0 c
    rw [ok_B, ok_K]
    refine ⟨⟨n1, (hb i n1.1 n1.2).1⟩, ?_⟩
    rw [ok_B]
    refine ok_mono (word_ok 86 z _ b.1 z1 (hb i n1.1 n1.2).2) fun v s2 ⟨b2', k2⟩ => ?_
    rw [ok_B, ok_Pr]
    refine ⟨⟨fun q => by rw [dw.1] at q; exact absurd q (by decide), by decide, dw.2⟩, ?_⟩
    rw [ok_B, ok_Pr]
    refine ⟨⟨fun q => by rw [hr.1] at q; exact absurd q (by decide), by decide, hr.2⟩, ?_⟩
    rw [hL.2, ok_B, ok_SI]
    refine ⟨n1, ?_⟩
    rw [ok_B, ok_AI]
    refine ⟨n1, ?_⟩
    have ew : gA (sA s2 w 0 i v) w 0 i = v := by rw [gA_sA, if_pos ⟨rfl, rfl, rfl⟩]
    have b3 : Bq w s2 (sA s2 w 0 i v) := Bq.row b2'.1 (by omega)
    have w86 : w ≠ 86 := by omega
    have b23 := (b.trans b2'.any).trans b3
    rw [ew, ok_C]
    refine ⟨fun v0 => ?_, fun _ => ?_⟩
    · rw [ok_R]
      refine ⟨⟨⟨rfl, rfl, rfl, rfl⟩, n2, b23, fun j a d => ?_⟩, n3⟩
      rcases n4 j d with q | ⟨q, q2⟩
      · rw [q, ew]
        exact b3.2.2.2.2.2.2.2.2.1 v (k2 v0)
      · have e : gA (sA s2 w 0 i v) w 0 j = gA z w 0 j := by
          rw [gA_sA, if_neg (fun x => q x.2.2)]
          exact b2'.2.2.2.2.2.1 w 0 j wf w86 w86
        rw [e]
        exact b3.2.2.2.2.2.2.2.2.1 _ (b2'.2.2.2.2.2.2.2.2.1 _ (fl j a q2))
    · rw [ok_R]
      exact ⟨b23, fun x => by cases x⟩
  · rcases y with y | y
    · simp only [Sum.elim_inl]
      rw [ok_R]
      exact ⟨b, fun x => absurd rfl x⟩
    · simp only [Sum.elim_inr]
      rw [ok_R]
      exact ⟨b, fun _ => k rfl⟩
/-- the constants that are strings -/
theorem kc_num {n i : Int32} (hn : n ≤ 20000) (i0 : 0 ≤ i) (c : ¬ n ≤ i) : (0 ≤ i ∧ i < 20001) ∧ i < n ∧ 0 ≤ i + 1 ∧ (n - (i + 1)).toNatClampNeg < (n - i).toNatClampNeg ∧ ∀ j, j < i + 1 → j = i ∨ (j ≠ i ∧ j < i) := by
  refine ⟨⟨i0, by grind⟩, by grind, by grind, clamp_lt (by grind) (by grind), fun j a => by grind⟩
theorem Kc.bq {w : Nat} {s s' : S1} {i : Int32} (h : Kc s i) (b : Bq w s s') (e2 : gA s' 2 0 i = gA s 2 0 i) (e3 : gB s' 3 0 i = gB s 3 0 i) : Kc s' i := by
  unfold Kc at *
  simp only [v_constants_k, v_constants_v, e2, e3]
  exact h.imp id fun q => ⟨q.1, q.2.1, q.2.2.1, b.2.2.2.2.2.2.2.2.1 _ q.2.2.2⟩
theorem q_consts_ok (s : S1) (x : Int32) (h : GG s) (hz : f_noCollection s ≠ 0) (hk : RdK s) (hc : 0 ≤ f_constCount s ∧ f_constCount s ≤ 20000) : ok (oW M_Mo_begin_L104 (x, 0)) s (fun y s' => Bq 3 s s' ∧ Sum.elim (fun _ => True) (fun q => q = x ∧ ∀ i, 0 ≤ i → i < f_constCount s → Kc s' i) y) := by
  have c0 : (0 : Int32).toInt = 0 := rfl
  refine ok_W (fun y z => y.1 = x ∧ 0 ≤ y.2 ∧ Bq 3 s z ∧ (∀ i, 0 ≤ i → i < y.2 → i < f_constCount s → Kc z i) ∧ ∀ i, 0 ≤ i → y.2 ≤ i → gB z 3 0 i = gB s 3 0 i) (fun y _ => (f_constCount s - y.2).toNatClampNeg) ?_ (x, 0) s ⟨rfl, (show (0 : Int32) ≤ 0 by decide), Bq.refl 3 h, fun i a b => absurd (Int32.lt_of_le_of_lt a b) (show ¬ (0 : Int32) < 0 by decide), fun _ _ _ => rfl⟩
  rintro ⟨x', i⟩ z ⟨ex, i0, b, kc, ge⟩
  dsimp only at ex i0 kc ge
  rw [ex]
  have e25 : gI z 25 0 = f_constCount s := b.2.2.2.2.1 25 0 (by decide)
  have e2 : ∀ j, gA z 2 0 j = gA s 2 0 j := fun j => b.2.2.2.2.2.1 2 0 j (by decide) (by decide) (by decide)
  have e57 : ∀ j, gA z 57 0 j = gA s 57 0 j := fun j => b.2.2.2.2.2.1 57 0 j (by decide) (by decide) (by decide)
  have z1 : f_noCollection z ≠ 0 := by
    rw [b.2.1]
    exact hz
  unfold M_Mo_begin_L104
  dsimp only
  rw [ok_B, ok_GI, e25, ok_C]
  refine ⟨fun c => ?_, fun c => ?_⟩
  · rw [ok_R]
    exact ⟨b, rfl, fun j a d => kc j a (Int32.lt_of_lt_of_le d c) d⟩
  obtain ⟨n1, n2, n3, n4, n5⟩ := kc_num hc.2 i0 c
  have i0' := i0
  have n2' := n2
  rw [i32_le, c0] at i0'
  rw [i32_lt] at n2'
  have rk := hk i i0' n2'
  have g3 : gB z 3 0 i = gB s 3 0 i := ge i i0 (Int32.le_refl i)
  rw [ok_B, ok_AI]
  refine ⟨n1, ?_⟩
  rw [ok_C]
  refine ⟨fun d => ?_, fun d => ?_⟩
  · have d' : v_constants_k s i = 4 := (e2 i).symm.trans d
    have rv : 0 ≤ (v_constants_v s i).toInt ∧ 0 ≤ (a_constText s i).toInt ∧ (a_constText s i).toInt + (v_constants_v s i).toInt ≤ 65536 := by
      rcases rk with q | q
      · rw [d'] at q
        exact absurd q.2 (by decide)
      · exact q.2
    have et : gA z 57 0 i = a_constText s i := e57 i
    have ev : gB z 3 0 i = v_constants_v s i := g3
    have nv : (v_constants_v s i).toInt32.toInt = (v_constants_v s i).toInt := by
      rw [Int64.toInt_toInt32]
      exact Int.bmod_eq_of_le (by omega) (by omega)
    have c4 : (400000 : Int32).toInt = 400000 := rfl
    have c6 : (266667 : Int32).toInt = 266667 := rfl
    have cl : (lnI 41).toInt = 65536 := rfl
    have y := tI_add (a := a_constText s i) (b := (v_constants_v s i).toInt32) (by omega)
    rw [ok_B, ok_AI]
    refine ⟨n1, ?_⟩
    rw [ok_B, ok_AL]
    refine ⟨n1, ?_⟩
    rw [et, ev, ok_B]
    refine ok_mono (strB_ok 86 z 41 (a_constText s i) (v_constants_v s i).toInt32 b.1 z1 rfl (by decide) ⟨by rw [i32_le, c0]; omega, by rw [i32_le, c4]; omega⟩ ⟨by rw [i32_le, c0]; omega, by rw [i32_le, c4]; omega⟩ (by rw [i32_le, c6]; omega) (by rw [i32_le, y, cl]; omega) (by decide) (by decide)) fun v s2 ⟨b2, lv⟩ => ?_
    have b12 := b.trans (b2.any (w := 3))
    rw [ok_C]
    refine ⟨fun v0 => ?_, fun _ => ?_⟩
    · have l := lv v0
      have z2 : f_noCollection s2 ≠ 0 := by
        rw [b12.2.1]
        exact hz
      rw [ok_B, ok_SI]
      refine ⟨l.b b2.1, ?_⟩
      rw [nar1]
      obtain ⟨b3, fl⟩ := Bq.fix (w := 86) b2.1 z2 l
      have e3' : ∀ j, gB (sA s2 60 0 v 1) 3 0 j = gB z 3 0 j := fun j => b2.2.2.2.2.2.2.1 3 0 j (by decide) (fun _ => by decide)
      have b13 := b.trans ((b2.trans b3).any (w := 3))
      generalize sA s2 60 0 v 1 = s3 at *
      rw [ok_B, ok_SL]
      refine ⟨n1, ?_⟩
      unfold M_Mo_begin_j177
      rw [ok_R]
      have lw : ∀ y k, Lv false (sB s3 3 0 i v.toInt64) y k ↔ Lv false s3 y k := fun y k => by
        unfold Lv
        simp only [f_used, a_sort, a_marked, gI_sI, gI_sL, gI_sA, gI_sB, gI_sAf, gI_sBf, gL_sI, gL_sL, gL_sA, gL_sB, gL_sAf, gL_sBf, gA_sI, gA_sL, gA_sA, gA_sB, gA_sAf, gA_sBf, gB_sI, gB_sL, gB_sA, gB_sB, gB_sAf, gB_sBf, Nat.reduceEqDiff, Nat.reduceMul, Nat.reduceAdd, false_and, true_and, and_true, and_false, if_true, if_false]
      have g4 : GG (sB s3 3 0 i v.toInt64) := b13.1.hx ((Hx0.refl s3).sB (by decide))
      have b4 : Bq 3 s3 (sB s3 3 0 i v.toInt64) := by
        refine ⟨g4, rfl, rfl, fun _ q => q, fun _ _ _ => rfl, fun _ _ _ _ _ _ => rfl, fun a u j p q => ?_, fun y m p q => ⟨(lw y m).mpr p, rfl, rfl⟩, fun y q => ⟨(lw y 4).mpr q.1, q.2⟩, rfl, Or.inl rfl⟩
        rw [gB_sB, if_neg (fun w => q w.1 rfl)]
      have b14 := b13.trans b4
      refine ⟨⟨rfl, n3, b14, fun j a d e => ?_, fun j a d => ?_⟩, n4⟩
      · rcases n5 j d with q | ⟨q, q2⟩
        · rw [q]
          have e4 : gA (sB s3 3 0 i v.toInt64) 2 0 i = 4 := by
            rw [b14.2.2.2.2.2.1 2 0 i (by decide) (by decide) (by decide)]
            exact d'
          have e5 : gB (sB s3 3 0 i v.toInt64) 3 0 i = v.toInt64 := by simp only [gI_sI, gI_sL, gI_sA, gI_sB, gI_sAf, gI_sBf, gL_sI, gL_sL, gL_sA, gL_sB, gL_sAf, gL_sBf, gA_sI, gA_sL, gA_sA, gA_sB, gA_sAf, gA_sBf, gB_sI, gB_sL, gB_sA, gB_sB, gB_sAf, gB_sBf, Nat.reduceEqDiff, Nat.reduceMul, Nat.reduceAdd, false_and, true_and, and_true, and_false, if_true, if_false]
          right
          simp only [v_constants_k, v_constants_v, e4, e5]
          have vl := Vl.of fl.1 ⟨by decide, by decide⟩ b13.1.used.2
          rcases vl with q | q | q
          · exact absurd q.2 (by decide)
          · exact absurd q.1 (by decide)
          · refine ⟨by trivial, q.2.2.1, q.2.2.2.1, ?_⟩
            rw [i64_back]
            exact b4.2.2.2.2.2.2.2.2.1 v fl
        · have k1 := kc j a q2 e
          have m1 : gA s3 2 0 j = gA z 2 0 j := (b2.trans b3).2.2.2.2.2.1 2 0 j (by decide) (by decide) (by decide)
          refine (k1.bq (b2.trans b3) m1 (e3' j)).bq b4 rfl ?_
          simp only [gI_sI, gI_sL, gI_sA, gI_sB, gI_sAf, gI_sBf, gL_sI, gL_sL, gL_sA, gL_sB, gL_sAf, gL_sBf, gA_sI, gA_sL, gA_sA, gA_sB, gA_sAf, gA_sBf, gB_sI, gB_sL, gB_sA, gB_sB, gB_sAf, gB_sBf, Nat.reduceEqDiff, Nat.reduceMul, Nat.reduceAdd, false_and, true_and, and_true, and_false, if_true, if_false, q]
      · have d2 : ¬ j = i := fun w => by
          rw [w] at d
          have d3 : i + 1 ≤ i := d
          clear kc ge
          grind
        have d3 : gB (sB s3 3 0 i v.toInt64) 3 0 j = gB s3 3 0 j := by simp only [gI_sI, gI_sL, gI_sA, gI_sB, gI_sAf, gI_sBf, gL_sI, gL_sL, gL_sA, gL_sB, gL_sAf, gL_sBf, gA_sI, gA_sL, gA_sA, gA_sB, gA_sAf, gA_sBf, gB_sI, gB_sL, gB_sA, gB_sB, gB_sAf, gB_sBf, Nat.reduceEqDiff, Nat.reduceMul, Nat.reduceAdd, false_and, true_and, and_true, and_false, if_true, if_false, d2]
        rw [d3, e3']
        refine ge j a ?_
        have d4 : i + 1 ≤ j := d
        clear kc ge
        grind
    · rw [ok_R]
      exact ⟨b12, trivial⟩
  · unfold M_Mo_begin_j177
    rw [ok_R]
    refine ⟨⟨rfl, n3, b, fun j a d' e => ?_, fun j a d' => ge j a ?_⟩, n4⟩
    · rcases n5 j d' with q | ⟨q, q2⟩
      · rw [q]
        left
        have w : v_constants_k z i = v_constants_k s i := e2 i
        rw [w]
        rcases rk with q3 | q3
        · exact q3
        · exact absurd ((e2 i).trans q3.1) d
      · exact kc j a q2 e
    · have d4 : i + 1 ≤ j := d'
      clear kc ge
      grind
theorem name_in (r : Nat) (L : Nat) (hL : (lnI r).toNatClampNeg = L) (k : ∀ m : _root_.Fin L, sbF r + m.val < nSt ∧ 0 ≤ stLI (sbF r + m.val) ∧ stLI (sbF r + m.val) ≤ 64) (i : Int32) (h0 : 0 ≤ i) (h1 : i < lnI r) : sbF r + i.toNatClampNeg < nSt ∧ 0 ≤ stLI (sbF r + i.toNatClampNeg) ∧ stLI (sbF r + i.toNatClampNeg) ≤ 64 := by
  have lt := clamp_lt h0 h1
  rw [hL] at lt
  exact k ⟨i.toNatClampNeg, lt⟩
theorem name78 : ∀ i : Int32, 0 ≤ i → i < lnI 78 → sbF 78 + i.toNatClampNeg < nSt ∧ 0 ≤ stLI (sbF 78 + i.toNatClampNeg) ∧ stLI (sbF 78 + i.toNatClampNeg) ≤ 64 := name_in 78 24 (by decide) (by decide +kernel)
theorem name79 : ∀ i : Int32, 0 ≤ i → i < lnI 79 → sbF 79 + i.toNatClampNeg < nSt ∧ 0 ≤ stLI (sbF 79 + i.toNatClampNeg) ∧ stLI (sbF 79 + i.toNatClampNeg) ≤ 64 := name_in 79 22 (by decide) (by decide +kernel)
theorem name80 : ∀ i : Int32, 0 ≤ i → i < lnI 80 → sbF 80 + i.toNatClampNeg < nSt ∧ 0 ≤ stLI (sbF 80 + i.toNatClampNeg) ∧ stLI (sbF 80 + i.toNatClampNeg) ≤ 64 := name_in 80 7 (by decide) (by decide +kernel)
theorem name81 : ∀ i : Int32, 0 ≤ i → i < lnI 81 → sbF 81 + i.toNatClampNeg < nSt ∧ 0 ≤ stLI (sbF 81 + i.toNatClampNeg) ∧ stLI (sbF 81 + i.toNatClampNeg) ≤ 64 := name_in 81 4 (by decide) (by decide +kernel)
