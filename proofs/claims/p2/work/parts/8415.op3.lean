/-! A closure is made. -/
theorem Wl.of8 {s : S1} {x : Int32} (hx : Lv false s x 8) (hu : f_used s ≤ 4000) : Wl false s 8 x.toInt64 := by
  have e := Int32.toInt_toInt64 x
  have h0 : (0 : Int32).toInt = 0 := rfl
  have h1 : (4000 : Int32).toInt = 4000 := rfl
  have l1 := hx.1
  have l2 := hx.2.1
  rw [i32_le, h0] at l1
  rw [i32_lt] at l2
  rw [i32_le, h1] at hu
  refine Or.inr ⟨rfl, ?_, ?_, by rw [i64_back]; exact hx⟩
  · rw [Int64.le_iff_toInt_le, e]
    exact l1
  · rw [Int64.lt_iff_toInt_lt, e]
    show _ < (4100 : Int)
    omega
theorem Wl.to8 {s : S1} {v : Int64} (h : Wl false s 8 v) : Lv false s v.toInt32 8 := by
  rcases h with w | w
  · exact absurd w.kind7.2 (by decide)
  · exact w.2.2.2
theorem cl_out {s : S1} {i : Int32} (h : RI false s) (hT : Tf s i) (hp : Pl s i) (ht : f_todo s = 0 ∨ f_todo s = 3 ∨ f_todo s = 4) : Out (sI s 2050 0 0) ∧ RI false (sI s 2050 0 0) ∧ Tf (sI s 2050 0 0) i := by
  have n0 := h.1.2.2.2.1.1
  have nx := Nx.handN h.1 (n := 0) ⟨Int32.le_refl 0, n0.1⟩
  have rx := nx.rx h.2.1
  have r2 := h.rx rx
  have T2 := hT.rx h rx
  have e2 : v_hand_n (sI s 2050 0 0) = 0 := by simp only [v_hand_n, gI_sI, gI_sL, gI_sA, gI_sB, gI_sAf, gI_sBf, gL_sI, gL_sL, gL_sA, gL_sB, gL_sAf, gL_sBf, gA_sI, gA_sL, gA_sA, gA_sB, gA_sAf, gA_sBf, gB_sI, gB_sL, gB_sA, gB_sB, gB_sAf, gB_sBf, Nat.reduceEqDiff, Nat.reduceMul, Nat.reduceAdd, false_and, true_and, and_true, and_false, if_true, if_false]
  have e3 : f_todo (sI s 2050 0 0) = f_todo s := by simp only [f_todo, gI_sI, gI_sL, gI_sA, gI_sB, gI_sAf, gI_sBf, gL_sI, gL_sL, gL_sA, gL_sB, gL_sAf, gL_sBf, gA_sI, gA_sL, gA_sA, gA_sB, gA_sAf, gA_sBf, gB_sI, gB_sL, gB_sA, gB_sB, gB_sAf, gB_sBf, Nat.reduceEqDiff, Nat.reduceMul, Nat.reduceAdd, false_and, true_and, and_true, and_false, if_true, if_false]
  obtain ⟨d1, d2, d3, d4⟩ := rx.same h hT.1 hT.2.1
  have p2 := hp.of d3 (fun p j => rx.wd p j)
  refine ⟨Ic.done0 r2 T2 e2 (by rw [e3]; exact ht) ?_ p2.1 p2.2.2, r2, T2⟩
  by_cases c : t_rowCount (sI s 2050 0 0) (cu (sI s 2050 0 0)) (tp (sI s 2050 0 0)) = 0
  · exact c
  · exact absurd (T2.2.2.2.2.1 c) p2.2.1
theorem up_ok2 (s : S1) (i k : Int32) (h : RI false s) (hT : Tf s i) (hk : 0 ≤ k ∧ k < a_upvalues s (pq s)) : ok (M_Mo_up (cu s) (tp s) k) s (fun x s' => s' = s ∧ Lv false s x 8) := by
  obtain ⟨t1, t2, t3, t4, t5, t6, t7, t8, t9, t10, t11, t12, t13, t14⟩ := h.top hT.1 hT.2.1
  have n := top_num h hT.1 hT.2.1
  have q := t14 k hk.1 hk.2
  have r5 : gI s 9471 0 = 1 := h.1.1.1.1.1.2.2.2.2.1
  simp only [M_Mo_up, ok_B, ok_C, ok_R, ok_L, ok_K, ok_GI, ok_GL, ok_PI, ok_PL, ok_AI, ok_AL, ok_SI, ok_SL, ok_Pr, ok_CI, cmp_lt, cmp_le, cmp_gt, cmp_ge, cmp_eq, nar0, nar1, Sum.elim_inl, Sum.elim_inr]
  exact ⟨r5, n.2.2, t5, q.1, by trivial, q.2⟩
/-- the variables caught so far lie in the hand -/
def Cpt (s : S1) (k : Int32) : Prop := v_hand_n s = k ∧ ∀ j, 0 ≤ j → j < k → gA s 17 0 j = 8 ∧ gA s 77 0 j = (gB s 18 0 j).toInt32
theorem Cpt.vk {s s' : S1} {k : Int32} (h : Cpt s k) (v : Vk s s') : Cpt s' k := by
  refine ⟨v.2.1.trans h.1, fun j a b => ?_⟩
  rw [v.2.2.1, v.2.2.2.1, v.2.2.2.2]
  exact h.2 j a b
theorem cap_num {k n : Int32} (k0 : 0 ≤ k) (h : ¬ n ≤ k) (hn : 0 ≤ n ∧ n ≤ 60) : (0 ≤ k ∧ k < 64) ∧ k < n ∧ 0 ≤ k + 1 ∧ k + 1 ≤ n ∧ (∀ j, j < k + 1 → j = k ∨ (j ≠ k ∧ j < k)) ∧ (n - (k + 1)).toNatClampNeg < (n - k).toNatClampNeg := by
  refine ⟨⟨k0, by grind⟩, by grind, by grind, by grind, fun j a => by grind, clamp_lt (by grind) (by grind)⟩
/-- one more is caught -/
theorem cap_add (s : S1) (k x : Int32) (h : GG s) (hz : f_noCollection s = 0) (hc : Cpt s k) (hk : 0 ≤ k ∧ k < 64) (hx : Lv false s x 8) (hj : ∀ j, j < k + 1 → j = k ∨ (j ≠ k ∧ j < k)) : ok (M_Va_add 16 0 8 x.toInt64) (sA s 77 0 k x) (fun _ s' => Rx s s' ∧ Cpt s' (k + 1) ∧ f_todo s' = f_todo s) := by
  have rx1 : Rx s (sA s 77 0 k x) := Rx.hx h ((Hx0.refl s).sA (by decide)) ((Hy.refl s).sA (by decide)) hz
  have hn : v_hand_n (sA s 77 0 k x) = k := hc.1
  have l1 : Lv false (sA s 77 0 k x) x 8 := by
    unfold Lv at *
    simp only [f_used, a_sort, a_marked, gI_sI, gI_sL, gI_sA, gI_sB, gI_sAf, gI_sBf, gL_sI, gL_sL, gL_sA, gL_sB, gL_sAf, gL_sBf, gA_sI, gA_sL, gA_sA, gA_sB, gA_sAf, gA_sBf, gB_sI, gB_sL, gB_sA, gB_sB, gB_sAf, gB_sBf, Nat.reduceEqDiff, Nat.reduceMul, Nat.reduceAdd, false_and, true_and, and_true, and_false, if_true, if_false] at *
    exact hx
  refine ok_mono (handAdd_ok _ 8 x.toInt64 rx1.1 (by rw [hn]; exact hk.2) (Wl.of8 l1 rx1.1.used.2) ⟨by decide, by decide⟩) fun _ s2 ⟨nx, es⟩ => ⟨rx1.trans (nx.rx rx1.2.1), ?_, ?_⟩
  · rw [hn] at es
    rw [es]
    refine ⟨by simp only [v_hand_n, gI_sI, gI_sL, gI_sA, gI_sB, gI_sAf, gI_sBf, gL_sI, gL_sL, gL_sA, gL_sB, gL_sAf, gL_sBf, gA_sI, gA_sL, gA_sA, gA_sB, gA_sAf, gA_sBf, gB_sI, gB_sL, gB_sA, gB_sB, gB_sAf, gB_sBf, Nat.reduceEqDiff, Nat.reduceMul, Nat.reduceAdd, false_and, true_and, and_true, and_false, if_true, if_false], fun j a b => ?_⟩
    rcases hj j b with e | ⟨e, b'⟩
    · subst e
      simp only [gI_sI, gI_sL, gI_sA, gI_sB, gI_sAf, gI_sBf, gL_sI, gL_sL, gL_sA, gL_sB, gL_sAf, gL_sBf, gA_sI, gA_sL, gA_sA, gA_sB, gA_sAf, gA_sBf, gB_sI, gB_sL, gB_sA, gB_sB, gB_sAf, gB_sBf, Nat.reduceEqDiff, Nat.reduceMul, Nat.reduceAdd, false_and, true_and, and_true, and_false, if_true, if_false, i64_back]
    · obtain ⟨w1, w2⟩ := hc.2 j a b'
      simp only [gI_sI, gI_sL, gI_sA, gI_sB, gI_sAf, gI_sBf, gL_sI, gL_sL, gL_sA, gL_sB, gL_sAf, gL_sBf, gA_sI, gA_sL, gA_sA, gA_sB, gA_sAf, gA_sBf, gB_sI, gB_sL, gB_sA, gB_sB, gB_sAf, gB_sBf, Nat.reduceEqDiff, Nat.reduceMul, Nat.reduceAdd, false_and, true_and, and_true, and_false, if_true, if_false, e]
      exact ⟨w1, w2⟩
  · rw [es]
    simp only [f_todo, gI_sI, gI_sL, gI_sA, gI_sB, gI_sAf, gI_sBf, gL_sI, gL_sL, gL_sA, gL_sB, gL_sAf, gL_sBf, gA_sI, gA_sL, gA_sA, gA_sB, gA_sAf, gA_sBf, gB_sI, gB_sL, gB_sA, gB_sB, gB_sAf, gB_sBf, Nat.reduceEqDiff, Nat.reduceMul, Nat.reduceAdd, false_and, true_and, and_true, and_false, if_true, if_false]
theorem child_num {a x n m : Int32} (ha : 0 ≤ a ∧ a ≤ 256) (hx : 0 ≤ x) (hn : x < n) (h2 : n ≤ 256 ∧ a + n ≤ m) (hm : m ≤ 256) : 0 ≤ a + x ∧ a + x < m := by
  have c0 : (0 : Int32).toInt = 0 := rfl
  have c1 : (256 : Int32).toInt = 256 := rfl
  simp only [i32_le, i32_lt, c0, c1] at *
  have y1 := tI_add (a := a) (b := n) (by omega)
  have y2 := tI_add (a := a) (b := x) (by omega)
  omega
theorem ups_num {a k n : Int32} (ha : 0 ≤ a ∧ a ≤ 30000 ∧ a + n ≤ 30200) (hk : 0 ≤ k ∧ k < n) (hn : n ≤ 60) : 0 ≤ a + k ∧ a + k < 30200 := by
  have c0 : (0 : Int32).toInt = 0 := rfl
  have c1 : (30000 : Int32).toInt = 30000 := rfl
  have c2 : (30200 : Int32).toInt = 30200 := rfl
  have c3 : (60 : Int32).toInt = 60 := rfl
  simp only [i32_le, i32_lt, c0, c1, c2, c3] at *
  have y1 := tI_add (a := a) (b := n) (by omega)
  have y2 := tI_add (a := a) (b := k) (by omega)
  omega
/-- what the loop keeps -/
def Ci (s s1 : S1) (k : Int32) : Prop := Rx s s1 ∧ f_todo s1 = 0 ∧ Cpt s1 k
theorem cap97_ok (s s0 s2 : S1) (a b c d : Int32) (r p h0 k n x : Int32) (hs : Ci s s0 k) (hv : Va s0 x s2) (k0 : 0 ≤ k) (hc : ¬ n ≤ k) (hn : 0 ≤ n ∧ n ≤ 60) : ok (M_Mo_closure__j97 a b 19 c d p h0 k x) s2 (fun y s' => Sum.elim (fun z => (z = (a, b, 19, c, d, p, h0, k + 1) ∧ (0 ≤ k + 1 ∧ k + 1 ≤ n) ∧ Ci s s' (k + 1)) ∧ (n - (k + 1)).toNatClampNeg < (n - k).toNatClampNeg) (fun z => Sum.elim (fun y => y = h0 ∧ Rx s s' ∧ (f_todo s' = 0 ∨ f_todo s' = 3 ∨ f_todo s' = 4)) (fun _ => False) z) y) := by
  obtain ⟨rx, td, cp⟩ := hs
  obtain ⟨vk, hv⟩ := hv
  obtain ⟨n1, n2, n3, n4, n5, n6⟩ := cap_num k0 hc hn
  have rx2 := rx.trans vk.1
  simp only [M_Mo_closure__j97, ok_B, ok_C, ok_R, ok_L, ok_K, ok_GI, ok_GL, ok_PI, ok_PL, ok_AI, ok_AL, ok_SI, ok_SL, ok_Pr, ok_CI, cmp_lt, cmp_le, cmp_gt, cmp_ge, cmp_eq, nar0, nar1, Sum.elim_inl, Sum.elim_inr]
  refine ⟨fun q => ⟨n1, ?_⟩, fun q => ?_⟩
  · rcases hv with ⟨e, -⟩ | ⟨hx, et⟩
    · rw [e] at q
      exact absurd q (by decide)
    · refine ok_mono (cap_add s2 k x rx2.1 rx2.2.1 (cp.vk vk) n1 hx n5) fun _ s3 ⟨rx3, cp3, td3⟩ => ⟨⟨by trivial, ⟨n3, n4⟩, rx2.trans rx3, ?_, cp3⟩, n6⟩
      exact td3.trans (et.trans td)
  · rcases hv with ⟨e, td2⟩ | ⟨hx, et⟩
    · refine ⟨by trivial, rx2, ?_⟩
      rcases td2 with w | w
      · exact Or.inl (w.trans td)
      · exact Or.inr w
    · exact absurd hx.1 q
theorem cap_loop (s : S1) (i p : Int32) (aw : Int32) (h : RI false s) (hT : Tf s i) (hh : v_hand_n s = 0) (ht : f_todo s = 0) (hp : 0 ≤ p ∧ p < f_protos s) (hP : Pp s p) (hl : p < 251) (hu : ∀ j, 0 ≤ j → j < a_upvalues s p → (0 ≤ a_ups s (a_upAt s p + j)) ∧ (a_ups s (a_upAt s p + j) < 256 → a_ups s (a_upAt s p + j) < a_upvalues s (pq s)) ∧ (¬ a_ups s (a_upAt s p + j) < 256 → (a_ups s (a_upAt s p + j) &&& 255) < a_registers s (pq s))) :
    ok (oW M_Mo_closure__L31 (cu s, tp s, 19, cu s, aw, p, 0, 0)) s (fun y s' => Sum.elim (fun y => y = 0 ∧ Rx s s' ∧ (f_todo s' = 0 ∨ f_todo s' = 3 ∨ f_todo s' = 4)) (fun y => y = (19, cu s, aw, p, 0) ∧ Ci s s' (a_upvalues s p)) y) := by
  have n := top_num h hT.1 hT.2.1
  obtain ⟨-, -, hup, hua, -⟩ := hP
  refine ok_W (fun x s' => x = (cu s, tp s, 19, cu s, aw, p, 0, x.2.2.2.2.2.2.2) ∧ (0 ≤ x.2.2.2.2.2.2.2 ∧ x.2.2.2.2.2.2.2 ≤ a_upvalues s p) ∧ Ci s s' x.2.2.2.2.2.2.2) (fun x _ => (a_upvalues s p - x.2.2.2.2.2.2.2).toNatClampNeg) ?_ (cu s, tp s, 19, cu s, aw, p, 0, 0) s ⟨rfl, ⟨(show (0 : Int32) ≤ 0 by decide), hup.1⟩, Rx.refl h.1 h.2.1, ht, hh, fun j a b => absurd (Int32.lt_of_le_of_lt a b) Int32.lt_irrefl⟩
  rintro ⟨y1, y2, y3, y4, y5, y6, y7, k⟩ s1 ⟨e, ⟨k0, k1⟩, ci⟩
  dsimp only at e k0 k1 ci
  rw [e]
  have rx := ci.1
  obtain ⟨d1, d2, d3, d4⟩ := rx.same h hT.1 hT.2.1
  have r1 := h.rx rx
  have T1 := hT.rx h rx
  have e45 : ∀ q, gA s1 45 0 q = a_upvalues s q := fun q => rx.2.2.2.A 45 (by decide) 0 q
  have e46 : gA s1 46 0 p = a_upAt s p := rx.2.2.2.A 46 (by decide) 0 p
  have e53 : ∀ q, gA s1 53 0 q = a_ups s q := fun q => rx.2.2.2.A 53 (by decide) 0 q
  have e33 : gA s1 33 (cu s) (tp s) = bs s := rx.2.2.2.A 33 (by decide) _ _
  simp only [M_Mo_closure__L31, ok_B, ok_C, ok_R, ok_L, ok_K, ok_GI, ok_GL, ok_PI, ok_PL, ok_AI, ok_AL, ok_SI, ok_SL, ok_Pr, ok_CI, cmp_lt, cmp_le, cmp_gt, cmp_ge, cmp_eq, nar0, nar1, Sum.elim_inl, Sum.elim_inr]
  rw [e45, e46, e53, e33]
  have pb : 0 ≤ p ∧ p < 251 := ⟨hp.1, hl⟩
  refine ⟨pb, fun c => ⟨by trivial, ?_⟩, fun c => ?_⟩
  · rw [← Int32.le_antisymm k1 c]
    exact ci
  have kn := Int32.not_le.mp c
  obtain ⟨u1, u2, u3⟩ := hu k k0 kn
  have fin : ∀ x s2, Va s1 x s2 → ok (M_Mo_closure__j97 (cu s) (tp s) 19 (cu s) aw p 0 k x) s2 (fun y s' => Sum.elim (fun z => (z = (cu s, tp s, 19, cu s, aw, p, 0, z.2.2.2.2.2.2.2) ∧ (0 ≤ z.2.2.2.2.2.2.2 ∧ z.2.2.2.2.2.2.2 ≤ a_upvalues s p) ∧ Ci s s' z.2.2.2.2.2.2.2) ∧ (a_upvalues s p - z.2.2.2.2.2.2.2).toNatClampNeg < (a_upvalues s p - k).toNatClampNeg) (fun e => Sum.elim (fun y => y = 0 ∧ Rx s s' ∧ (f_todo s' = 0 ∨ f_todo s' = 3 ∨ f_todo s' = 4)) (fun y => y = (19, cu s, aw, p, 0) ∧ Ci s s' (a_upvalues s p)) e) y) := fun x s2 hv => by
    refine ok_mono (cap97_ok s s1 s2 _ _ _ _ 0 p 0 k (a_upvalues s p) x ci hv k0 c hup) fun y s' hy => ?_
    rcases y with z | z
    · simp only [Sum.elim_inl] at hy ⊢
      obtain ⟨⟨q1, q2⟩, q3⟩ := hy
      rw [q1]
      exact ⟨⟨rfl, q2⟩, q3⟩
    · simp only [Sum.elim_inr] at hy ⊢
      rcases z with z | z
      · simp only [Sum.elim_inl] at hy ⊢
        exact hy
      · simp only [Sum.elim_inr] at hy
  refine ⟨pb, ups_num hua ⟨k0, kn⟩ hup.2, fun c5 => ⟨n.2.2, ?_⟩, fun c5 => ?_⟩
  · have w := variableAt_ok s1 i (a_ups s (a_upAt s p + k) &&& 255) r1 T1 ⟨(and_le _ 255 (by decide)).1, by
      rw [d3, rx.reg]
      exact u3 (fun z => absurd (Int32.lt_of_le_of_lt c5 z) Int32.lt_irrefl)⟩
    rw [d1, d4] at w
    exact ok_mono w fun x s2 hv => fin x s2 hv
  · have w := up_ok2 s1 i (a_ups s (a_upAt s p + k)) r1 T1 ⟨u1, by
      rw [d3]
      show _ < gA s1 45 0 _
      rw [e45]
      exact u2 (Int32.not_le.mp c5)⟩
    rw [d1, d2] at w
    refine ok_mono w fun x s2 ⟨es, hx⟩ => ?_
    subst es
    exact fin x s2 ⟨⟨Rx.refl r1.1 r1.2.1, rfl, fun _ => rfl, fun _ => rfl, fun _ => rfl⟩, Or.inr ⟨hx, rfl⟩⟩
theorem op44_ok (s : S1) (i : Int32) (h : Ic s i) (ho : iO (wd s (pq s) i) = 44) : ok (M_Mo_closure_ (cu s) (tp s) (pq s) (wd s (pq s) i) 19 (cu s) (bs s + iA (wd s (pq s) i))) s (fun _ s' => Out s') := by
  have n := top_num h.1 h.2.1.1 h.2.1.2.1
  obtain ⟨t1, t2, t3, t4, t5, t6, t7, -⟩ := h.1.top h.2.1.1 h.2.1.2.1
  have aa := iA_in (wd s (pq s) i)
  have xx := iX_in (wd s (pq s) i)
  have w44 := (Wn.all h).2.2.2.2.2.2.2.2.2.2.2.2.2.2.2.2.2.2.2.2.2.2.2.2.2.1
  obtain ⟨q1, q2⟩ := w44 ho
  have hp : Pl s i := Pl.op (by rw [ho]; decide)
  have pg := h.1.2.2.1
  have hpr : f_protos s < 251 := Int32.lt_of_le_of_lt pg.1.2 (by decide)
  have pqb : 0 ≤ pq s ∧ pq s < 251 := ⟨t6.1, Int32.lt_trans t6.2 hpr⟩
  obtain ⟨-, -, -, -, -, -, ch, -, cu'⟩ := t7
  obtain ⟨c1, c2⟩ := cu' _ xx.1 q2
  have eX : iushr (wd s (pq s) i) 14 = iX (wd s (pq s) i) := rfl
  have nn := child_num ⟨ch.1, ch.2.2.1⟩ xx.1 q2 ⟨ch.2.2.2.1, ch.2.2.2.2⟩ (by decide)
  simp only [M_Mo_closure_, M_Mo_bx, ok_B, ok_C, ok_R, ok_L, ok_K, ok_GI, ok_GL, ok_PI, ok_PL, ok_AI, ok_AL, ok_SI, ok_SL, ok_Pr, ok_CI, cmp_lt, cmp_le, cmp_gt, cmp_ge, cmp_eq, nar0, nar1, Sum.elim_inl, Sum.elim_inr, eX]
  generalize iX (wd s (pq s) i) = x at *
  generalize iA (wd s (pq s) i) = a at *
  have hn0 : gI s 2050 0 = 0 := h.2.2.2
  rw [hn0]
  have c1' := c1
  have e54 : gA s 54 0 (gA s 51 0 (pq s) + x) = a_child s (a_childAt s (pq s) + x) := rfl
  rw [e54]
  generalize a_child s (a_childAt s (pq s) + x) = p at *
  have pl : p < 251 := Int32.lt_trans c1.2 hpr
  have hP := pg.2.2 p c1.1 c1.2
  refine ⟨pqb, nn, ok_mono (cap_loop s i p (bs s + a) h.1 h.2.1 h.2.2.2 h.2.2.1 c1 hP pl c2) fun y s1 hy => ?_⟩
  rcases y with y | y
  · simp only [Sum.elim_inl] at hy ⊢
    obtain ⟨e, rx, td⟩ := hy
    obtain ⟨d1, d2, d3, d4⟩ := rx.same h.1 h.2.1.1 h.2.1.2.1
    rw [e]
    simp only [ok_B, ok_C, ok_R, ok_L, ok_K, ok_GI, ok_GL, ok_PI, ok_PL, ok_AI, ok_AL, ok_SI, ok_SL, ok_Pr, ok_CI, cmp_lt, cmp_le, cmp_gt, cmp_ge, cmp_eq, nar0, nar1, Sum.elim_inl, Sum.elim_inr]
    exact (cl_out (h.1.rx rx) (h.2.1.rx h.1 rx) (hp.of d3 (fun p j => rx.wd p j)) td).1
  · simp only [Sum.elim_inr] at hy ⊢
    obtain ⟨e, rx, td, cp⟩ := hy
    obtain ⟨d1, d2, d3, d4⟩ := rx.same h.1 h.2.1.1 h.2.1.2.1
    rw [e]
    simp only [ok_B, ok_C, ok_R, ok_L, ok_K, ok_GI, ok_GL, ok_PI, ok_PL, ok_AI, ok_AL, ok_SI, ok_SL, ok_Pr, ok_CI, cmp_lt, cmp_le, cmp_gt, cmp_ge, cmp_eq, nar0, nar1, Sum.elim_inl, Sum.elim_inr]
    have e45 : gA s1 45 0 p = a_upvalues s p := rx.2.2.2.A 45 (by decide) 0 p
    have e23 : f_protos s1 = f_protos s := rx.2.2.2.I 23 (by decide) 0
    rw [e45]
    have hup := hP.2.2.1
    have r1 := h.1.rx rx
    have T1 := h.2.1.rx h.1 rx
    refine ⟨⟨c1.1, pl⟩, ok_mono (closure_x s1 p 0 (a_upvalues s p) rx.1 ⟨hup.1, Int32.le_trans hup.2 (by decide)⟩ pl (fun _ => ⟨by rw [e23]; exact c1.2, e45.symm⟩) (fun _ s0 g0 gc k k0 k1 => ?_) (fun z => absurd (Int32.lt_of_le_of_lt c1.1 z) Int32.lt_irrefl)) fun v s2 hd => ?_⟩
    · have nc : f_noCollection s0 = 0 := (gc.I 92 (by decide) 0).trans rx.2.1
      have rw' := (g0.2 nc).2.2.2.2.1 k k0 (by
        show k < 0 + gI s0 2050 0
        rw [gc.I 2050 (by decide), Int32.zero_add]
        have := cp.1
        simp only [v_hand_n] at this
        rw [this]
        exact k1)
      have w := cp.2 k k0 k1
      have f17 : gA s0 17 0 k = gA s1 17 0 k := gc.x.A 17 (by decide) 0 k
      have f18 : gB s0 18 0 k = gB s1 18 0 k := gc.x.2.2.2.1 18 0 k (by decide)
      have f77 : gA s0 77 0 k = gA s1 77 0 k := gc.x.A 77 (by decide) 0 k
      show Lv false s0 (gA s0 77 0 k) 8
      have rw2 : Wl false s0 (gA s0 17 0 k) (gB s0 18 0 k) := rw'
      rw [f77, w.2, ← f18]
      rw [f17, w.1] at rw2
      exact rw2.to8
    · have vk := Vk.mdx rx.1 rx.2.1 hd
      obtain ⟨f1, f2, f3, f4⟩ := vk.1.same r1 T1.1 T1.2.1
      have r2 := r1.rx vk.1
      have T2 := T1.rx r1 vk.1
      have p2 : Pl s2 i := (hp.of d3 (fun p j => rx.wd p j)).of f3 (fun p j => vk.1.wd p j)
      have tdd : f_todo s2 = 0 ∨ f_todo s2 = 3 ∨ f_todo s2 = 4 := by
        rcases (Nx.mdx rx.1 hd).2.2.2.2.2 with w | w
        · exact Or.inl (w.trans td)
        · exact Or.inr w
      have co := cl_out r2 T2 p2 tdd
      refine ⟨fun _ => co.1, fun c => ?_⟩
      have hx : Lv false s2 v 6 ∧ f_todo s2 = 0 := by
        rcases hd.2 with ⟨e, w, wl⟩ | ⟨s0, w0, w1, w2, w3, w4, w5⟩
        · rw [e] at c
          exact absurd (by decide) c
        · exact ⟨w5, ((w3.I 73 (by decide) 0).trans (w1.I 73 (by decide) 0)).trans td⟩
      have rx3 := (Nx.handN r2.1 (n := 0) ⟨Int32.le_refl 0, r2.1.2.2.2.1.1.1⟩).rx r2.2.1
      have h2 : v_hand_n (sI s2 2050 0 0) = 0 := by simp only [v_hand_n, gI_sI, gI_sL, gI_sA, gI_sB, gI_sAf, gI_sBf, gL_sI, gL_sL, gL_sA, gL_sB, gL_sAf, gL_sBf, gA_sI, gA_sL, gA_sA, gA_sB, gA_sAf, gA_sBf, gB_sI, gB_sL, gB_sA, gB_sB, gB_sAf, gB_sBf, Nat.reduceEqDiff, Nat.reduceMul, Nat.reduceAdd, false_and, true_and, and_true, and_false, if_true, if_false]
      have t3 : f_todo (sI s2 2050 0 0) = 0 := by
        simp only [f_todo, gI_sI, gI_sL, gI_sA, gI_sB, gI_sAf, gI_sBf, gL_sI, gL_sL, gL_sA, gL_sB, gL_sAf, gL_sBf, gA_sI, gA_sL, gA_sA, gA_sB, gA_sAf, gA_sBf, gB_sI, gB_sL, gB_sA, gB_sB, gB_sAf, gB_sBf, Nat.reduceEqDiff, Nat.reduceMul, Nat.reduceAdd, false_and, true_and, and_true, and_false, if_true, if_false]
        exact hx.2
      have l3 : Lv false (sI s2 2050 0 0) v 6 := by
        have := hx.1
        unfold Lv at *
        simp only [f_used, a_sort, a_marked, gI_sI, gI_sL, gI_sA, gI_sB, gI_sAf, gI_sBf, gL_sI, gL_sL, gL_sA, gL_sB, gL_sAf, gL_sBf, gA_sI, gA_sL, gA_sA, gA_sB, gA_sAf, gA_sBf, gB_sI, gB_sL, gB_sA, gB_sB, gB_sAf, gB_sBf, Nat.reduceEqDiff, Nat.reduceMul, Nat.reduceAdd, false_and, true_and, and_true, and_false, if_true, if_false] at *
        exact this
      generalize sI s2 2050 0 0 = z at *
      obtain ⟨g1, g2, g3, g4⟩ := rx3.same r2 T2.1 T2.2.1
      have ic : Ic z i := ⟨co.2.1, co.2.2, t3, h2⟩
      have pz : Pl z i := p2.of g3 (fun p j => rx3.wd p j)
      have w := ic.setDone (r := a) (k := 6) (v := v.toInt64) ⟨aa.1, by
        rw [g3, f3, d3, rx3.reg, vk.1.reg, rx.reg]
        exact q1⟩ (Vl.of l3 ⟨by decide, by decide⟩ ic.1.1.used.2) pz
      rw [g1, f1, d1, g4, f4, d4] at w
      exact w
