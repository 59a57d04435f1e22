/-! A string, found or made. -/
theorem sub_in {a n L : Int32} (ha : 0 ≤ a ∧ a ≤ 400000) (hn : 0 ≤ n ∧ n ≤ 400000) (hl : a + n ≤ L) : a ≤ L ∧ n ≤ L - a := by
  have k4 : (400000 : Int32).toInt = 400000 := rfl
  have k1 : (1000000 : Int32).toInt = 1000000 := rfl
  have h0 : (0 : Int32).toInt = 0 := rfl
  simp only [i32_le] at ha hn hl ⊢
  have e2 := add_toInt (a := a) (b := n) ⟨by rw [i32_le]; omega, by rw [i32_le]; omega⟩ ⟨by rw [i32_le]; omega, by rw [i32_le]; omega⟩
  have hlt := Int32.toInt_lt L
  rw [Int32.toInt_sub, Int.bmod_eq_of_le (by omega) (by omega)]
  omega
theorem string_ok (s : S1) (r : Nat) (u a n : Int32) (h : Gm s) (nm : Nm s) (hdy : dyF r = false) (hu : 0 ≤ u ∧ u.toNatClampNeg < cnF r) (ha : 0 ≤ a ∧ a ≤ 400000) (hn : 0 ≤ n ∧ n ≤ 400000) (hn6 : n ≤ 266667) (hl : a + n ≤ lnI r) (hl2 : lnI r ≤ 500000)
    (hr : (r ≠ 5 ∧ r ≠ 58 ∧ r ≠ 59 ∧ r ≠ 62 ∧ r ≠ 65 ∧ r ≠ 66 ∧ r ≠ 68 ∧ r ≠ 75) ∧ r ≠ 60 ∧ r ≠ 61) : ok (M_Mo_string r u a n) s (fun v s' => Made s 4 E0 v s' ∨ (s' = s ∧ Lv false s v 4)) := by
  have pr : ∀ s' : S1, (dyF r = true → gI s' (128 * r + 127) u = 1) ∧ 0 ≤ u ∧ u.toNatClampNeg < cnF r := fun s' => ⟨fun w => (by rw [hdy] at w; cases w), hu⟩
  simp only [M_Mo_string, ok_B, ok_C, ok_R, ok_L, ok_K, ok_GI, ok_GL, ok_PI, ok_PL, ok_AI, ok_AL, ok_SI, ok_SL, ok_Pr, ok_CI, cmp_lt, cmp_le, cmp_gt, cmp_ge, cmp_eq, nar0, nar1, Sum.elim_inl, Sum.elim_inr]
  refine ok_mono (q_hash_ok s r u a n ha hn hl hl2) fun v s1 ⟨ev, es⟩ => ?_
  subst es
  have hv : 0 ≤ v ∧ v < 1024 := by rw [ev]; exact hF_lt _ _ _ _ _
  obtain ⟨d1, d2, d3⟩ := h.1.2.1.2.2.1 v hv.1 hv.2
  refine ⟨pr s1, hv, ?_⟩
  refine ok_mono (q_find_ok s1 h.1.2.1 h.1.2.2.2.2.2.2.2 r u a n v _ hv ?_ ha hn hl) fun e s2 ⟨es, he⟩ => ?_
  · by_cases c : a_heads s1 v = 0
    · left
      show a_heads s1 v - 1 < 0
      rw [c]
      decide
    · exact Or.inr (d2 c)
  subst es
  rcases he with ⟨x, ex, hx⟩ | ex
  · subst ex
    simp only [ok_B, ok_C, ok_R, ok_L, ok_K, ok_GI, ok_GL, ok_PI, ok_PL, ok_AI, ok_AL, ok_SI, ok_SL, ok_Pr, ok_CI, cmp_lt, cmp_le, cmp_gt, cmp_ge, cmp_eq, nar0, nar1, Sum.elim_inl, Sum.elim_inr]
    exact Or.inr ⟨by trivial, hx.1, hx.2.1, hx.2.2.1, fun z => by cases z⟩
  subst ex
  simp only [ok_B, ok_C, ok_R, ok_L, ok_K, ok_GI, ok_GL, ok_PI, ok_PL, ok_AI, ok_AL, ok_SI, ok_SL, ok_Pr, ok_CI, cmp_lt, cmp_le, cmp_gt, cmp_ge, cmp_eq, nar0, nar1, Sum.elim_inl, Sum.elim_inr]
  refine ⟨fun c => ?_, fun c => ok_mono (q_raise_ok s2 11) fun w s' ⟨ew, es⟩ => ⟨pr _, ?_⟩⟩
  · refine ok_mono (may_ok s2 0 h) fun w s0 ⟨h0, hx, hkl, hw, hok⟩ => ⟨pr _, fun c => Or.inl (Or.inl ⟨rfl, h0, hx, hkl, nm.gcx hx⟩), fun d => ?_⟩
    obtain ⟨hg, he, hm, -⟩ := hok d
    have nm0 := nm.gcx hx
    refine ok_mono (object_ok s0 4 ⟨by decide, by decide⟩ h0.1.2.2.2.2.2.2 h0.1.2.2.1 (Int32.lt_of_lt_of_le he nm0.2.2.2.1)) fun x s1 hN => ⟨pr _, ?_⟩
    have hx1 : 0 ≤ x ∧ x < 4100 := ⟨hN.1.1, Int32.lt_trans (Int32.lt_of_lt_of_le hN.1.2.1 hN.1.2.2) (by decide)⟩
    have e38 : gI s1 38 0 = f_textMade s0 := hN.2.2.2.2.2.1 38 0 (by decide) (by decide) (by decide) (by decide) (by decide)
    have e68 : gA s1 68 0 v = a_heads s0 v := hN.2.2.2.2.2.2.2.1 68 0 v (by decide) (by decide) (by decide)
    have e44 : f_textAll s0 = f_textAll s2 := hg.I 44 (by decide) 0
    have ht : f_textAll s0 + n ≤ 400000 := by rw [e44]; exact c
    have q0 := h0.1.2.1.1
    have ht2 : f_textMade s0 + n ≤ 400000 := by
      have q1 := nm0.2.1
      clear hok hN nm0 nm h h0 hx hg d1 d2 d3 pr ev
      grind
    have b1 := sub_in ha hn hl
    have b2 := sub_in ⟨q0.1, q0.2⟩ hn ht2
    simp only [gI_sI, gI_sL, gI_sA, gI_sB, gI_sAf, gI_sBf, gL_sI, gL_sL, gL_sA, gL_sB, gL_sAf, gL_sBf, gA_sI, gA_sL, gA_sA, gA_sB, gA_sAf, gA_sBf, gB_sI, gB_sL, gB_sA, gB_sB, gB_sAf, gB_sBf, Nat.reduceEqDiff, Nat.reduceMul, Nat.reduceAdd, false_and, true_and, and_true, and_false, if_true, if_false, e38, e68]
    refine ⟨⟨ha.1, q0.1, hn.1, b1.1, b1.2, b2.1, b2.2⟩, hx1, hx1, hv, hx1, hv, ?_⟩
    have hh : hF s0 r u a n = v := by
      rw [ev]
      exact hF_congr fun j => hx.A r hr.1 u j
    have e44' : gI s1 44 0 = f_textAll s0 := hN.2.2.2.2.2.1 44 0 (by decide) (by decide) (by decide) (by decide) (by decide)
    have fin : ∀ (c44 : Int32) (t : S1), c44 = f_textAll s0 + n → t = sA (sA (sI (sI (sA (sA (sAf s1 67 0 (cpI s1 r u 67 0 a (f_textMade s0) n)) 62 0 x (f_textMade s0)) 63 0 x n) 38 0 (f_textMade s0 + n)) 44 0 c44) 65 0 x (a_heads s0 v)) 68 0 v (x + 1) → Made s2 4 E0 x t := fun c44 t ec et => by
      obtain ⟨q1, q2, q3, q4⟩ := newStr_ok s0 s1 t x v n a c44 r u h0 nm0 hN hn ht hh ⟨hr.1.2.1, hr.2.1, hr.2.2⟩ et ec hm hn6
      exact Made.of h0 hg hkl nm0 q1 q3 q4 q2
    exact Or.inl (fin _ _ (by rw [e44']) rfl)
  · subst ew es
    exact Or.inl (Or.inl ⟨rfl, h.raise 11 _, (Gc.refl s2).x.raise 11 _, (Kl.refl s2).raise 11 _ (by decide), nm.gcx ((Gc.refl s2).x.raise 11 _)⟩)
