/-! How long a table is: the search ends, for there are so many entries only. -/
theorem i64_succ {m : Int32} (h : 0 ≤ m ∧ m ≤ 300000) : m.toInt64 + 1 = (m + 1).toInt64 := by
  have h0 : (0 : Int32).toInt = 0 := rfl
  have h3 : (300000 : Int32).toInt = 300000 := rfl
  have h1 : (1 : Int64).toInt = 1 := rfl
  have h2 : (1 : Int32).toInt = 1 := rfl
  rw [i32_le, i32_le] at h
  rw [← Int64.toInt_inj, Int64.toInt_add, Int32.toInt_toInt64, Int32.toInt_toInt64, Int32.toInt_add, h1, h2, Int.bmod_eq_of_le (by omega) (by omega), Int.bmod_eq_of_le (by omega) (by omega)]
theorem i64_inj {a b : Int32} (h : a.toInt64 = b.toInt64) : a = b := by
  have := congrArg Int64.toInt h
  rw [Int32.toInt_toInt64, Int32.toInt_toInt64] at this
  exact Int32.toInt_inj.mp this
theorem i64_back (a : Int32) : a.toInt64.toInt32 = a := by
  rw [← Int32.toInt_inj, Int64.toInt_toInt32, Int32.toInt_toInt64]
  exact Int.bmod_eq_of_le (by have := Int32.le_toInt a; omega) (by have := Int32.toInt_lt a; omega)
theorem reg_out {a x n : Int32} (ha : 0 ≤ a ∧ a ≤ 400000) (hn : 0 ≤ n ∧ n ≤ 400000) (h : a ≤ x ∧ x < a + n) : 0 ≤ x - a ∧ x - a < n := by
  have k4 : (400000 : Int32).toInt = 400000 := rfl
  have h0 : (0 : Int32).toInt = 0 := rfl
  simp only [i32_le, i32_lt] at ha hn h ⊢
  have e2 : (a + n).toInt = a.toInt + n.toInt := by
    rw [Int32.toInt_add]
    exact Int.bmod_eq_of_le (by omega) (by omega)
  have e1 : (x - a).toInt = x.toInt - a.toInt := by
    rw [Int32.toInt_sub]
    exact Int.bmod_eq_of_le (by omega) (by omega)
  omega
theorem sub_cancel {x y a : Int32} (h : x - a = y - a) : x = y := by
  have := congrArg (fun z => z + a) h
  simp only [Int32.sub_add_cancel] at this
  exact this
theorem add1_cancel {x y : Int32} (h : x + 1 = y + 1) : x = y := by
  have := congrArg (fun z => z - 1) h
  simp only [Int32.add_sub_cancel] at this
  exact this
theorem q_border_ok (s : S1) (t : Int32) (h : GG s) (ht : Lv false s t 5) : ok (M_Mo_border t) s (fun _ s' => ∃ gk gv, s' = sL (sI s 66 0 gk) 67 0 gv) := by
  have hT := h.tb ht
  obtain ⟨h1, h2, h3, h4, h5, -, -⟩ := hT
  have key : ∀ s', (s' = s ∨ ∃ gk gv, s' = sL (sI s 66 0 gk) 67 0 gv) → Hx0 s s' ∧ (∀ k v e, Ent s' t k v e ↔ Ent s t k v e) ∧ ∀ a b, sL (sI s' 66 0 a) 67 0 b = sL (sI s 66 0 a) 67 0 b := fun s' w => by
    rcases w with e | ⟨a, b, e⟩
    · subst e
      exact ⟨Hx0.refl _, fun _ _ _ => Iff.rfl, fun _ _ => rfl⟩
    · subst e
      exact ⟨hx_got (Hx0.refl s) a b, fun _ _ _ => Iff.rfl, fun c d => got_got s a c b d⟩
  simp only [M_Mo_border, ok_B, ok_C, ok_R, ok_L, ok_K, ok_GI, ok_GL, ok_PI, ok_PL, ok_AI, ok_AL, ok_SI, ok_SL, ok_Pr, ok_CI, cmp_lt, cmp_le, cmp_gt, cmp_ge, cmp_eq, nar0, nar1, Sum.elim_inl, Sum.elim_inr]
  refine ok_W (fun x s' => x.1 = t ∧ (s' = s ∨ ∃ gk gv, s' = sL (sI s 66 0 gk) 67 0 gv) ∧ ∃ (g : Int32 → Int32) (m : Int32), (0 ≤ m ∧ m ≤ a_third s t) ∧ x.2 = m.toInt64 ∧ ∀ i, 0 ≤ i → i < m → Ent s t 3 (i + 1).toInt64 (g i)) (fun x _ => (300001 - x.2.toInt32).toNatClampNeg) ?_ _ _ ⟨rfl, Or.inl rfl, fun _ => 0, 0, ⟨by decide, h5.1⟩, rfl, fun i a b => absurd (Int32.lt_of_le_of_lt a b) Int32.lt_irrefl⟩
  rintro ⟨t', x⟩ s1 ⟨e1, e2, g, m, hm, e3, hg⟩
  dsimp only at e1 e3
  subst e1 e3
  obtain ⟨k1, k2, k3⟩ := key s1 e2
  have hG := h.hx k1
  have hL : Lv false s1 t' 5 := (Lv.hs k1.hw.hs).mpr ht
  have m3 : m ≤ 300000 := Int32.le_trans hm.2 (Int32.le_trans h5.2 h3.2)
  simp only [M_Mo_border_L2, ok_B, ok_C, ok_R, ok_L, ok_K, ok_GI, ok_GL, ok_PI, ok_PL, ok_AI, ok_AL, ok_SI, ok_SL, ok_Pr, ok_CI, cmp_lt, cmp_le, cmp_gt, cmp_ge, cmp_eq, nar0, nar1, Sum.elim_inl, Sum.elim_inr]
  refine ok_mono (raw_ok s1 t' 3 (m.toInt64 + 1) hG hL) fun r s2 ⟨gk, gv, es, hv, hr, he, _⟩ => ?_
  rw [k3] at es
  refine ⟨fun c => ⟨gk, gv, es⟩, fun c => ?_⟩
  obtain ⟨e, he⟩ := he c
  rw [k2, i64_succ ⟨hm.1, m3⟩] at he
  have st : 0 ≤ m + 1 ∧ (∀ i, i < m + 1 → i ≠ m → i < m) ∧ (300001 - (m + 1)).toNatClampNeg < (300001 - m).toNatClampNeg ∧ (∀ i, i < m → i < m + 1) := by
    clear hg he key k1 k2 k3 hG hL hr hv h4
    refine ⟨by grind, fun i a b => by grind, clamp_lt (by grind) (by grind), fun i a => by grind⟩
  have hg2 : ∀ i, 0 ≤ i → i < m + 1 → Ent s t' 3 (i + 1).toInt64 (if i = m then e else g i) := fun i a b => by
    by_cases c : i = m
    · rw [if_pos c, c]
      exact he
    · rw [if_neg c]
      exact hg i a (st.2.1 i b c)
  have pg := pigeon (fun i => (if i = m then e else g i) - a_first s t') (m + 1) (a_third s t') st.1 h5.1 (fun i a b => reg_out ⟨h2.1, Int32.le_trans h2.2 (by decide)⟩ ⟨h5.1, Int32.le_trans h5.2 (Int32.le_trans h3.2 (by decide))⟩ (hg2 i a b).1) (fun i j a b c => by
    have w1 := hg2 i a (Int32.lt_trans b c)
    have w2 := hg2 j (Int32.le_trans a (Int32.le_of_lt b)) c
    intro q
    have e2 := sub_cancel q
    have w3 := w1.2.2.2
    rw [e2, w2.2.2.2] at w3
    have w4 := add1_cancel (i64_inj w3)
    rw [w4] at b
    exact absurd b Int32.lt_irrefl)
  refine ⟨⟨by trivial, Or.inr ⟨gk, gv, es⟩, fun i => if i = m then e else g i, m + 1, ⟨st.1, pg⟩, i64_succ ⟨hm.1, m3⟩, hg2⟩, ?_⟩
  rw [i64_succ ⟨hm.1, m3⟩, i64_back, i64_back]
  exact st.2.2.1
/-- one more entry at t's end -/
def Ap (s s' : S1) (t : Int32) : Prop := (∀ f i, gI s' f i = gI s f i) ∧ (∀ f i, gL s' f i = gL s f i) ∧ (∀ a i j, a ≠ 64 → a ≠ 69 → a ≠ 70 → a ≠ 73 → a ≠ 74 → gA s' a i j = gA s a i j) ∧ (∀ a i j, a ≠ 71 → a ≠ 72 → gB s' a i j = gB s a i j) ∧ (∀ z, a_third s' z = if z = t then a_third s t + 1 else a_third s z) ∧
  (∀ j, j ≠ a_first s t + a_third s t → a_ek s' j = a_ek s j ∧ a_vk s' j = a_vk s j ∧ a_ev s' j = a_ev s j ∧ a_vv s' j = a_vv s j)
theorem q_append_ok (s : S1) (t k vk : Int32) (key v : Int64) (h : GG s) (ht : Lv false s t 5) (hr : a_third s t < a_second s t) (hk : Vl false s k key) (hv : Vl false s vk v) : ok (M_Mo_append t k key vk v) s (fun _ s' => GG s' ∧ (Ap s s' t ∧ Nx s s')) := by
  obtain ⟨h1, h2, h3, h4, h5, ⟨c1, c2⟩, r1, r2, r3, r4, r5, r6⟩ := h.tb ht
  have hpos : 0 < a_second s t := Int32.lt_of_le_of_lt h5.1 hr
  have b0 := add_in (a := a_first s t) (i := a_third s t) (n := a_second s t) (L := 300000) ⟨h2.1, Int32.le_trans h2.2 (by decide)⟩ h5.1 hr (Int32.le_trans h3.2 (by decide)) h4
  simp only [M_Mo_append, ok_B, ok_C, ok_R, ok_L, ok_K, ok_GI, ok_GL, ok_PI, ok_PL, ok_AI, ok_AL, ok_SI, ok_SL, ok_Pr, ok_CI, cmp_lt, cmp_le, cmp_gt, cmp_ge, cmp_eq, nar0, nar1, Sum.elim_inl, Sum.elim_inr]
  simp only [gI_sI, gI_sL, gI_sA, gI_sB, gI_sAf, gI_sBf, gL_sI, gL_sL, gL_sA, gL_sB, gL_sAf, gL_sBf, gA_sI, gA_sL, gA_sA, gA_sB, gA_sAf, gA_sBf, gB_sI, gB_sL, gB_sA, gB_sB, gB_sAf, gB_sBf, Nat.reduceEqDiff, Nat.reduceMul, Nat.reduceAdd, false_and, true_and, and_true, and_false, if_true, if_false, i8_id hk.kind, i8_id hv.kind]
  simp only [p_ek, p_vk, p_ev, p_vv, p_follow, p_bucket, a_first, a_second, a_third] at *
  refine ⟨h1, h1, h1, r1, b0, r3, b0, r2, b0, r4, b0, h1, h1, ?_⟩
  refine ok_mono (slot_ok _ _ k key hpos) fun q s1 ⟨es, q1, q2⟩ => ?_
  subst es
  have b1 := add_in (a := gA s 62 0 t) (i := q) (n := gA s 63 0 t) (L := 300000) ⟨h2.1, Int32.le_trans h2.2 (by decide)⟩ q1 q2 (Int32.le_trans h3.2 (by decide)) h4
  simp only [gI_sI, gI_sL, gI_sA, gI_sB, gI_sAf, gI_sBf, gL_sI, gL_sL, gL_sA, gL_sB, gL_sAf, gL_sBf, gA_sI, gA_sL, gA_sA, gA_sB, gA_sAf, gA_sBf, gB_sI, gB_sL, gB_sA, gB_sB, gB_sAf, gB_sBf, Nat.reduceEqDiff, Nat.reduceMul, Nat.reduceAdd, false_and, true_and, and_true, and_false, if_true, if_false]
  refine ⟨r5, r6, b1, b0, r6, b1, ?_⟩
  have d1 := c1 q q1 q2
  -- the numbers of the region
  have nn : (∀ j, 0 ≤ j → j < gA s 63 0 t → gA s 62 0 t + j = gA s 62 0 t + q → j = q) ∧ (∀ j, 0 ≤ j → j < gA s 64 0 t + 1 → gA s 62 0 t + j = gA s 62 0 t + gA s 64 0 t → j = gA s 64 0 t) ∧ (0 ≤ gA s 64 0 t + 1 ∧ gA s 64 0 t + 1 ≤ gA s 63 0 t ∧ gA s 64 0 t ≤ gA s 64 0 t + 1) ∧ (∀ j, j < gA s 64 0 t + 1 → j ≠ gA s 64 0 t → j < gA s 64 0 t) ∧ (gA s 62 0 t ≤ gA s 62 0 t + gA s 64 0 t ∧ gA s 62 0 t + gA s 64 0 t < gA s 62 0 t + gA s 63 0 t) ∧ (gA s 62 0 t ≤ gA s 62 0 t + q ∧ gA s 62 0 t + q < gA s 62 0 t + gA s 63 0 t) ∧ (∀ j, gA s 62 0 t ≤ j → j < gA s 62 0 t + (gA s 64 0 t + 1) → j ≠ gA s 62 0 t + gA s 64 0 t → j < gA s 62 0 t + gA s 64 0 t) := by
    clear c1 c2 d1 hk hv h
    refine ⟨fun j a b c => by grind, fun j a b c => by grind, ⟨by grind, by grind, by grind⟩, fun j a b => by grind, ⟨by grind, by grind⟩, ⟨by grind, by grind⟩, fun j a b c => by grind⟩
  obtain ⟨n1, n2, n3, n4, n5, n6, n7⟩ := nn
  generalize es2 : sA (sA (sB (sA (sB (sA (sA s 64 0 t (gA s 64 0 t + 1)) 69 0 (gA s 62 0 t + gA s 64 0 t) k) 71 0 (gA s 62 0 t + gA s 64 0 t) key) 70 0 (gA s 62 0 t + gA s 64 0 t) vk) 72 0 (gA s 62 0 t + gA s 64 0 t) v) 73 0 (gA s 62 0 t + gA s 64 0 t) (gA s 74 0 (gA s 62 0 t + q))) 74 0 (gA s 62 0 t + q) (gA s 64 0 t + 1) = s2
  have rI : ∀ f i, gI s2 f i = gI s f i := fun f i => by rw [← es2]; rfl
  have rL : ∀ f i, gL s2 f i = gL s f i := fun f i => by rw [← es2]; rfl
  have rA : ∀ a i j, a ≠ 64 → a ≠ 69 → a ≠ 70 → a ≠ 73 → a ≠ 74 → gA s2 a i j = gA s a i j := fun a i j e1 e2 e3 e4 e5 => by
    rw [← es2]
    simp only [gI_sI, gI_sL, gI_sA, gI_sB, gI_sAf, gI_sBf, gL_sI, gL_sL, gL_sA, gL_sB, gL_sAf, gL_sBf, gA_sI, gA_sL, gA_sA, gA_sB, gA_sAf, gA_sBf, gB_sI, gB_sL, gB_sA, gB_sB, gB_sAf, gB_sBf, Nat.reduceEqDiff, Nat.reduceMul, Nat.reduceAdd, false_and, true_and, and_true, and_false, if_true, if_false, e1, e2, e3, e4, e5]
  have rB : ∀ a i j, a ≠ 71 → a ≠ 72 → gB s2 a i j = gB s a i j := fun a i j e1 e2 => by
    rw [← es2]
    simp only [gI_sI, gI_sL, gI_sA, gI_sB, gI_sAf, gI_sBf, gL_sI, gL_sL, gL_sA, gL_sB, gL_sAf, gL_sBf, gA_sI, gA_sL, gA_sA, gA_sB, gA_sAf, gA_sBf, gB_sI, gB_sL, gB_sA, gB_sB, gB_sAf, gB_sBf, Nat.reduceEqDiff, Nat.reduceMul, Nat.reduceAdd, false_and, true_and, and_true, and_false, if_true, if_false, e1, e2]
  have r64 : ∀ z, gA s2 64 0 z = if z = t then gA s 64 0 t + 1 else gA s 64 0 z := fun z => by
    rw [← es2]
    simp only [gI_sI, gI_sL, gI_sA, gI_sB, gI_sAf, gI_sBf, gL_sI, gL_sL, gL_sA, gL_sB, gL_sAf, gL_sBf, gA_sI, gA_sL, gA_sA, gA_sB, gA_sAf, gA_sBf, gB_sI, gB_sL, gB_sA, gB_sB, gB_sAf, gB_sBf, Nat.reduceEqDiff, Nat.reduceMul, Nat.reduceAdd, false_and, true_and, and_true, and_false, if_true, if_false]
  have r69 : ∀ z, gA s2 69 0 z = if z = gA s 62 0 t + gA s 64 0 t then k else gA s 69 0 z := fun z => by
    rw [← es2]
    simp only [gI_sI, gI_sL, gI_sA, gI_sB, gI_sAf, gI_sBf, gL_sI, gL_sL, gL_sA, gL_sB, gL_sAf, gL_sBf, gA_sI, gA_sL, gA_sA, gA_sB, gA_sAf, gA_sBf, gB_sI, gB_sL, gB_sA, gB_sB, gB_sAf, gB_sBf, Nat.reduceEqDiff, Nat.reduceMul, Nat.reduceAdd, false_and, true_and, and_true, and_false, if_true, if_false]
  have r70 : ∀ z, gA s2 70 0 z = if z = gA s 62 0 t + gA s 64 0 t then vk else gA s 70 0 z := fun z => by
    rw [← es2]
    simp only [gI_sI, gI_sL, gI_sA, gI_sB, gI_sAf, gI_sBf, gL_sI, gL_sL, gL_sA, gL_sB, gL_sAf, gL_sBf, gA_sI, gA_sL, gA_sA, gA_sB, gA_sAf, gA_sBf, gB_sI, gB_sL, gB_sA, gB_sB, gB_sAf, gB_sBf, Nat.reduceEqDiff, Nat.reduceMul, Nat.reduceAdd, false_and, true_and, and_true, and_false, if_true, if_false]
  have r71 : ∀ z, gB s2 71 0 z = if z = gA s 62 0 t + gA s 64 0 t then key else gB s 71 0 z := fun z => by
    rw [← es2]
    simp only [gI_sI, gI_sL, gI_sA, gI_sB, gI_sAf, gI_sBf, gL_sI, gL_sL, gL_sA, gL_sB, gL_sAf, gL_sBf, gA_sI, gA_sL, gA_sA, gA_sB, gA_sAf, gA_sBf, gB_sI, gB_sL, gB_sA, gB_sB, gB_sAf, gB_sBf, Nat.reduceEqDiff, Nat.reduceMul, Nat.reduceAdd, false_and, true_and, and_true, and_false, if_true, if_false]
  have r72 : ∀ z, gB s2 72 0 z = if z = gA s 62 0 t + gA s 64 0 t then v else gB s 72 0 z := fun z => by
    rw [← es2]
    simp only [gI_sI, gI_sL, gI_sA, gI_sB, gI_sAf, gI_sBf, gL_sI, gL_sL, gL_sA, gL_sB, gL_sAf, gL_sBf, gA_sI, gA_sL, gA_sA, gA_sB, gA_sAf, gA_sBf, gB_sI, gB_sL, gB_sA, gB_sB, gB_sAf, gB_sBf, Nat.reduceEqDiff, Nat.reduceMul, Nat.reduceAdd, false_and, true_and, and_true, and_false, if_true, if_false]
  have r73 : ∀ z, gA s2 73 0 z = if z = gA s 62 0 t + gA s 64 0 t then gA s 74 0 (gA s 62 0 t + q) else gA s 73 0 z := fun z => by
    rw [← es2]
    simp only [gI_sI, gI_sL, gI_sA, gI_sB, gI_sAf, gI_sBf, gL_sI, gL_sL, gL_sA, gL_sB, gL_sAf, gL_sBf, gA_sI, gA_sL, gA_sA, gA_sB, gA_sAf, gA_sBf, gB_sI, gB_sL, gB_sA, gB_sB, gB_sAf, gB_sBf, Nat.reduceEqDiff, Nat.reduceMul, Nat.reduceAdd, false_and, true_and, and_true, and_false, if_true, if_false]
  have r74 : ∀ z, gA s2 74 0 z = if z = gA s 62 0 t + q then gA s 64 0 t + 1 else gA s 74 0 z := fun z => by
    rw [← es2]
    simp only [gI_sI, gI_sL, gI_sA, gI_sB, gI_sAf, gI_sBf, gL_sI, gL_sL, gL_sA, gL_sB, gL_sAf, gL_sBf, gA_sI, gA_sL, gA_sA, gA_sB, gA_sAf, gA_sBf, gB_sI, gB_sL, gB_sA, gB_sB, gB_sAf, gB_sBf, Nat.reduceEqDiff, Nat.reduceMul, Nat.reduceAdd, false_and, true_and, and_true, and_false, if_true, if_false]
  clear es2
  have e62 : ∀ z, gA s2 62 0 z = gA s 62 0 z := fun z => rA 62 0 z (by decide) (by decide) (by decide) (by decide) (by decide)
  have e63 : ∀ z, gA s2 63 0 z = gA s 63 0 z := fun z => rA 63 0 z (by decide) (by decide) (by decide) (by decide) (by decide)
  have t64 : gA s2 64 0 t = gA s 64 0 t + 1 := by rw [r64, if_pos rfl]
  have sh := (h.1.1.1.2.2 t ht.1 ht.2.1).1.1 ht.2.2.1
  have hval := ((h.1.1.1.2.2 t ht.1 ht.2.1).2.1 ht.2.2.1).2
  have hw : Tw s s2 t := by
    refine ⟨rI, rL, fun a i j e1 e2 e3 e4 e5 e6 e7 => rA a i j e3 e4 e5 e6 e7, rB, fun z hz => ⟨e62 z, e63 z, ?_⟩, fun j hj => ?_, fun y b m hy w j j1 j2 j3 j4 => ?_, ?_, ⟨fun j j1 j2 => ?_, fun j j1 j2 => ?_⟩, fun j j1 j2 => ?_⟩
    · exact (r64 z).trans (if_neg hz)
    · simp only [a_first, a_second, e62, e63] at hj
      have d2 : j ≠ gA s 62 0 t + gA s 64 0 t := fun e => hj (by rw [e]; exact n5)
      have d3 : j ≠ gA s 62 0 t + q := fun e => hj (by rw [e]; exact n6)
      exact ⟨(r69 j).trans (if_neg d2), (r70 j).trans (if_neg d2), (r73 j).trans (if_neg d2), (r74 j).trans (if_neg d3), (r71 j).trans (if_neg d2), (r72 j).trans (if_neg d2)⟩
    · simp only [a_first, a_second, e62, e63] at j1 j2
      exact h.2.2.1.1 t y _ _ b m ⟨⟨ht.1, ht.2.1⟩, Or.inl ⟨ht.2.2.1, rfl, rfl⟩⟩ w (fun e => hy e.symm) j j1 j2 j3 j4
    · show 0 ≤ gA s2 62 0 t ∧ 0 ≤ gA s2 64 0 t ∧ gA s2 64 0 t ≤ gA s2 63 0 t ∧ gA s2 62 0 t ≤ 300000 ∧ gA s2 63 0 t ≤ 300000 ∧ gA s2 62 0 t + gA s2 63 0 t ≤ f_entryTop s
      rw [e62, e63, t64]
      exact ⟨h2.1, n3.1, n3.2.1, h2.2, h3.2, sh.2.2.2.2.2⟩
    · have j2' : j < gA s2 63 0 t := j2
      rw [e63] at j2'
      show 0 ≤ gA s2 74 0 (gA s2 62 0 t + j) ∧ gA s2 74 0 (gA s2 62 0 t + j) ≤ gA s2 64 0 t
      rw [e62, r74, t64]
      by_cases d : gA s 62 0 t + j = gA s 62 0 t + q
      · rw [if_pos d]
        exact ⟨n3.1, Int32.le_refl _⟩
      · rw [if_neg d]
        have w := c1 j j1 j2'
        exact ⟨w.1, Int32.le_trans w.2 n3.2.2⟩
    · have j2' : j < gA s2 64 0 t := j2
      rw [t64] at j2'
      show 0 ≤ gA s2 73 0 (gA s2 62 0 t + j) ∧ gA s2 73 0 (gA s2 62 0 t + j) ≤ j
      rw [e62, r73]
      by_cases d : gA s 62 0 t + j = gA s 62 0 t + gA s 64 0 t
      · rw [if_pos d, n2 j j1 j2' d]
        exact d1
      · rw [if_neg d]
        exact c2 j j1 (n4 j j2' (fun e => d (by rw [e])))
    · have j1' : gA s2 62 0 t ≤ j := j1
      have j2' : j < gA s2 62 0 t + gA s2 64 0 t := j2
      rw [e62] at j1' j2'
      rw [t64] at j2'
      show Vl false s (gA s2 69 0 j) (gB s2 71 0 j) ∧ Vl false s (gA s2 70 0 j) (gB s2 72 0 j)
      rw [r69, r70, r71, r72]
      by_cases d : j = gA s 62 0 t + gA s 64 0 t
      · rw [if_pos d, if_pos d, if_pos d, if_pos d]
        exact ⟨hk, hv⟩
      · rw [if_neg d, if_neg d, if_neg d, if_neg d]
        exact hval j j1' (n7 j j1' j2' d)
  exact ⟨h.tw hw ht, ⟨rI, rL, rA, rB, r64, fun j hj => ⟨(r69 j).trans (if_neg hj), (r70 j).trans (if_neg hj), (r71 j).trans (if_neg hj), (r72 j).trans (if_neg hj)⟩⟩, Nx.tw h hw ht⟩
