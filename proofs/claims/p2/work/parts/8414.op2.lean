/-! The variable at a place of the stack. -/
theorem thr_num {k t : Int32} (ht : 0 ≤ t ∧ t < 33) (h0 : 0 ≤ k) (h : k ≤ t) : (0 ≤ k ∧ k < 33) ∧ (k ≠ t → 0 ≤ k + 1 ∧ k + 1 ≤ t ∧ (33 - (k + 1)).toNatClampNeg < (33 - k).toNatClampNeg) := by
  refine ⟨⟨h0, by grind⟩, fun c => ⟨by grind, by grind, clamp_lt (by grind) (by grind)⟩⟩
theorem thread_ok (s : S1) (t : Int32) (ht : 0 ≤ t ∧ t < 33) : ok (M_Mo_thread t) s (fun v s' => v = t ∧ s' = s) := by
  simp only [M_Mo_thread, ok_B, ok_C, ok_R, ok_L, ok_K, ok_GI, ok_GL, ok_PI, ok_PL, ok_AI, ok_AL, ok_SI, ok_SL, ok_Pr, ok_CI, cmp_lt, cmp_le, cmp_gt, cmp_ge, cmp_eq, nar0, nar1, Sum.elim_inl, Sum.elim_inr]
  refine ok_W (Q := fun y s' => y = t ∧ s' = s) (fun x s' => x.1 = t ∧ (0 ≤ x.2 ∧ x.2 ≤ t) ∧ s' = s) (fun x _ => (33 - x.2).toNatClampNeg) ?_ (t, 0) s ⟨rfl, ⟨(show (0 : Int32) ≤ 0 by decide), ht.1⟩, rfl⟩
  rintro ⟨t', k⟩ s1 ⟨e1, ⟨k0, k1⟩, e2⟩
  dsimp only at e1 k0 k1 e2
  subst e1 e2
  obtain ⟨n1, n2⟩ := thr_num ht k0 k1
  simp only [M_Mo_thread_L2, ok_B, ok_C, ok_R, ok_L, ok_K, ok_GI, ok_GL, ok_PI, ok_PL, ok_AI, ok_AL, ok_SI, ok_SL, ok_Pr, ok_CI, cmp_lt, cmp_le, cmp_gt, cmp_ge, cmp_eq, nar0, nar1, Sum.elim_inl, Sum.elim_inr]
  exact ⟨n1, fun c => ⟨c, by trivial⟩, fun c => ⟨⟨by trivial, ⟨(n2 c).1, (n2 c).2.1⟩, by trivial⟩, (n2 c).2.2⟩⟩
/-- what reading or making a variable leaves alone -/
def Vk (s s' : S1) : Prop := Rx s s' ∧ gI s' 2050 0 = gI s 2050 0 ∧ (∀ j, gA s' 17 0 j = gA s 17 0 j) ∧ (∀ j, gB s' 18 0 j = gB s 18 0 j) ∧ ∀ j, gA s' 77 0 j = gA s 77 0 j
def Va (s : S1) (v : Int32) (s' : S1) : Prop := Vk s s' ∧ ((v = -1 ∧ Td s s') ∨ (Lv false s' v 8 ∧ gI s' 73 0 = gI s 73 0))
theorem Vk.mdx {s s' : S1} {k v : Int32} {E : S1 → S1 → Int32 → Prop} (h : GG s) (hz : f_noCollection s = 0) (hd : Mdx s k E v s') : Vk s s' := by
  refine ⟨(Nx.mdx h hd).rx hz, ?_⟩
  rcases hd.2 with ⟨e, w, wl⟩ | ⟨s0, w0, w1, w2, w3, w4, w5⟩
  · exact ⟨w.I 2050 (by decide) 0, fun j => w.A 17 (by decide) 0 j, fun j => w.2.2.2.1 18 0 j (by decide), fun j => w.A 77 (by decide) 0 j⟩
  · exact ⟨(w3.I 2050 (by decide) 0).trans (w1.I 2050 (by decide) 0), fun j => (w3.A 17 (by decide) 0 j).trans (w1.x.A 17 (by decide) 0 j), fun j => (w3.B 18 (by decide) 0 j).trans (w1.x.2.2.2.1 18 0 j (by decide)), fun j => (w3.A 77 (by decide) 0 j).trans (w1.x.A 77 (by decide) 0 j)⟩
theorem Vk.trans {a b c : S1} (h : Vk a b) (k : Vk b c) : Vk a c := ⟨h.1.trans k.1, k.2.1.trans h.2.1, fun j => (k.2.2.1 j).trans (h.2.2.1 j), fun j => (k.2.2.2.1 j).trans (h.2.2.2.1 j), fun j => (k.2.2.2.2 j).trans (h.2.2.2.2 j)⟩
theorem Vk.on {s s' : S1} {t x a : Int32} (hs : On s s' t x a) (rx : Rx s s') : Vk s s' := ⟨rx, hs.I 2050 (by decide) 0, fun j => hs.A 17 (by decide) 0 j, fun j => hs.B 18 (by decide) 0 j, fun j => hs.A 77 (by decide) 0 j⟩
theorem on_of (s1 : S1) (t x a o : Int32) (ho : o = gI s1 3587 t) : On (sB (sA (sA s1 62 0 x (-1)) 5 0 x 0) 6 0 x 0) (sA (sI (sA (sA s1 62 0 x t) 63 0 x a) 3587 t (o + 1)) 29 t o x) t x a := by
  have eo : t_openCount (sB (sA (sA s1 62 0 x (-1)) 5 0 x 0) 6 0 x 0) t = o := by
    simp only [t_openCount, gI_sI, gI_sL, gI_sA, gI_sB, gI_sAf, gI_sBf, gL_sI, gL_sL, gL_sA, gL_sB, gL_sAf, gL_sBf, gA_sI, gA_sL, gA_sA, gA_sB, gA_sAf, gA_sBf, gB_sI, gB_sL, gB_sA, gB_sB, gB_sAf, gB_sBf, Nat.reduceEqDiff, Nat.reduceMul, Nat.reduceAdd, false_and, true_and, and_true, and_false, if_true, if_false]
    exact ho.symm
  unfold On
  rw [eo]
  refine ⟨fun f i q => ?_, ?_, fun _ _ => rfl, fun b i j q1 q2 q3 q4 => ?_, ?_, fun b i j q => ?_, fun z q => ?_, ?_, ?_⟩
  · simp only [gI_sI, gI_sL, gI_sA, gI_sB, gI_sAf, gI_sBf, gL_sI, gL_sL, gL_sA, gL_sB, gL_sAf, gL_sBf, gA_sI, gA_sL, gA_sA, gA_sB, gA_sAf, gA_sBf, gB_sI, gB_sL, gB_sA, gB_sB, gB_sAf, gB_sBf, Nat.reduceEqDiff, Nat.reduceMul, Nat.reduceAdd, false_and, true_and, and_true, and_false, if_true, if_false]
    rw [if_neg (fun w => q.elim (fun z => z w.1) (fun z => z w.2))]
  · simp only [t_openCount, gI_sI, gI_sL, gI_sA, gI_sB, gI_sAf, gI_sBf, gL_sI, gL_sL, gL_sA, gL_sB, gL_sAf, gL_sBf, gA_sI, gA_sL, gA_sA, gA_sB, gA_sAf, gA_sBf, gB_sI, gB_sL, gB_sA, gB_sB, gB_sAf, gB_sBf, Nat.reduceEqDiff, Nat.reduceMul, Nat.reduceAdd, false_and, true_and, and_true, and_false, if_true, if_false]
  · simp only [gI_sI, gI_sL, gI_sA, gI_sB, gI_sAf, gI_sBf, gL_sI, gL_sL, gL_sA, gL_sB, gL_sAf, gL_sBf, gA_sI, gA_sL, gA_sA, gA_sB, gA_sAf, gA_sBf, gB_sI, gB_sL, gB_sA, gB_sB, gB_sAf, gB_sBf, Nat.reduceEqDiff, Nat.reduceMul, Nat.reduceAdd, false_and, true_and, and_true, and_false, if_true, if_false]
    rw [if_neg (fun w => q4.elim (fun z => z w.1) (fun z => z.elim (fun y => y w.2.1) (fun y => y w.2.2))), if_neg (fun w => q3 w.1), if_neg (fun w => q2 w.1), if_neg (fun w => q1 w.1), if_neg (fun w => q2 w.1)]
  · simp only [t_open, gI_sI, gI_sL, gI_sA, gI_sB, gI_sAf, gI_sBf, gL_sI, gL_sL, gL_sA, gL_sB, gL_sAf, gL_sBf, gA_sI, gA_sL, gA_sA, gA_sB, gA_sAf, gA_sBf, gB_sI, gB_sL, gB_sA, gB_sB, gB_sAf, gB_sBf, Nat.reduceEqDiff, Nat.reduceMul, Nat.reduceAdd, false_and, true_and, and_true, and_false, if_true, if_false]
  · simp only [gI_sI, gI_sL, gI_sA, gI_sB, gI_sAf, gI_sBf, gL_sI, gL_sL, gL_sA, gL_sB, gL_sAf, gL_sBf, gA_sI, gA_sL, gA_sA, gA_sB, gA_sAf, gA_sBf, gB_sI, gB_sL, gB_sA, gB_sB, gB_sAf, gB_sBf, Nat.reduceEqDiff, Nat.reduceMul, Nat.reduceAdd, false_and, true_and, and_true, and_false, if_true, if_false]
    rw [if_neg (fun w => q w.1)]
  · simp only [a_first, a_second, v_variable_k, v_variable_v, gI_sI, gI_sL, gI_sA, gI_sB, gI_sAf, gI_sBf, gL_sI, gL_sL, gL_sA, gL_sB, gL_sAf, gL_sBf, gA_sI, gA_sL, gA_sA, gA_sB, gA_sAf, gA_sBf, gB_sI, gB_sL, gB_sA, gB_sB, gB_sAf, gB_sBf, Nat.reduceEqDiff, Nat.reduceMul, Nat.reduceAdd, false_and, true_and, and_true, and_false, if_true, if_false, q]
  · simp only [a_first, gI_sI, gI_sL, gI_sA, gI_sB, gI_sAf, gI_sBf, gL_sI, gL_sL, gL_sA, gL_sB, gL_sAf, gL_sBf, gA_sI, gA_sL, gA_sA, gA_sB, gA_sAf, gA_sBf, gB_sI, gB_sL, gB_sA, gB_sB, gB_sAf, gB_sBf, Nat.reduceEqDiff, Nat.reduceMul, Nat.reduceAdd, false_and, true_and, and_true, and_false, if_true, if_false]
  · simp only [a_second, gI_sI, gI_sL, gI_sA, gI_sB, gI_sAf, gI_sBf, gL_sI, gL_sL, gL_sA, gL_sB, gL_sAf, gL_sBf, gA_sI, gA_sL, gA_sA, gA_sB, gA_sAf, gA_sBf, gB_sI, gB_sL, gB_sA, gB_sB, gB_sAf, gB_sBf, Nat.reduceEqDiff, Nat.reduceMul, Nat.reduceAdd, false_and, true_and, and_true, and_false, if_true, if_false]
theorem variableAt_ok (s : S1) (i r : Int32) (h : RI false s) (hT : Tf s i) (hr : 0 ≤ r ∧ r < a_registers s (pq s)) : ok (M_Mo_variableAt (cu s) (bs s + r)) s (Va s) := by
  have n := top_num h hT.1 hT.2.1
  have hpl : 0 ≤ t_place s (cu s) := h.2.2.2.2.1.2.2.2.2.2.2.2.2.1 0 h.2.2.2.2.1.1.1
  obtain ⟨o1, o2⟩ := h.1.1.1.2.2.2.1 (cu s) n.1.1 n.1.2 hpl
  have hoc := (h.1.thr n.1 hpl).1.2.2.1
  have hu := h.1.used
  have self : Vk s s := ⟨(Nx.refl h.1).rx h.2.1, rfl, fun _ => rfl, fun _ => rfl, fun _ => rfl⟩
  simp only [M_Mo_variableAt, ok_B, ok_C, ok_R, ok_L, ok_K, ok_GI, ok_GL, ok_PI, ok_PL, ok_AI, ok_AL, ok_SI, ok_SL, ok_Pr, ok_CI, cmp_lt, cmp_le, cmp_gt, cmp_ge, cmp_eq, nar0, nar1, Sum.elim_inl, Sum.elim_inr]
  refine ok_mono (ok_W (Q := fun y s' => s' = s ∧ Sum.elim (fun z : Int32 × Int32 => z.1 = cu s ∧ 0 ≤ z.2 ∧ z.2 < t_openCount s (cu s)) (fun z : Int32 × Int32 => z.1 = cu s ∧ z.2 = bs s + r) y) (fun x s' => (x.1 = cu s ∧ x.2.1 = bs s + r) ∧ (0 ≤ x.2.2 ∧ x.2.2 ≤ t_openCount s (cu s)) ∧ s' = s) (fun x _ => (t_openCount s (cu s) - x.2.2).toNatClampNeg) ?_ (cu s, bs s + r, 0) s ⟨⟨rfl, rfl⟩, ⟨(show (0 : Int32) ≤ 0 by decide), hoc.1⟩, rfl⟩) ?_
  · rintro ⟨t', a', k⟩ s1 ⟨⟨e1, e2⟩, ⟨k0, k1⟩, e3⟩
    dsimp only at e1 e2 k0 k1 e3
    subst e3
    rw [e1, e2]
    simp only [M_Mo_variableAt_L2, ok_B, ok_C, ok_R, ok_L, ok_K, ok_GI, ok_GL, ok_PI, ok_PL, ok_AI, ok_AL, ok_SI, ok_SL, ok_Pr, ok_CI, cmp_lt, cmp_le, cmp_gt, cmp_ge, cmp_eq, nar0, nar1, Sum.elim_inl, Sum.elim_inr]
    refine ⟨fun c => ⟨by trivial, by trivial, by trivial⟩, fun c => ?_⟩
    have hk : k < t_openCount s1 (cu s1) := Int32.not_le.mp c
    obtain ⟨n1, n2, n3, n4, n5, n6⟩ := step_num k0 hk hoc.2
    have l := (o1 k k0 hk).1
    refine ⟨⟨k0, Int32.lt_of_lt_of_le hk hoc.2⟩, ⟨l.1, Int32.lt_trans (Int32.lt_of_lt_of_le l.2.1 hu.2) (by decide)⟩, fun _ => ⟨by trivial, by trivial, k0, hk⟩, fun _ => ⟨⟨⟨by trivial, by trivial⟩, ⟨n1, n2⟩, by trivial⟩, n6⟩⟩
  rintro y s1 ⟨e, hy⟩
  subst e
  rcases y with ⟨t', k⟩ | ⟨t', a'⟩
  · simp only [Sum.elim_inl] at hy ⊢
    obtain ⟨e1, k0, hk⟩ := hy
    rw [e1]
    simp only [ok_B, ok_C, ok_R, ok_L, ok_K, ok_GI, ok_GL, ok_PI, ok_PL, ok_AI, ok_AL, ok_SI, ok_SL, ok_Pr, ok_CI, cmp_lt, cmp_le, cmp_gt, cmp_ge, cmp_eq, nar0, nar1, Sum.elim_inl, Sum.elim_inr]
    exact ⟨⟨k0, Int32.lt_of_lt_of_le hk hoc.2⟩, self, Or.inr ⟨(o1 k k0 hk).1, rfl⟩⟩
  · simp only [Sum.elim_inr] at hy ⊢
    obtain ⟨e1, e2⟩ := hy
    rw [e1, e2]
    have w := newVariable_x s1 h.1
    simp only [M_Mo_newVariable, M_Va_set, ok_B, ok_C, ok_R, ok_L, ok_K, ok_GI, ok_GL, ok_PI, ok_PL, ok_AI, ok_AL, ok_SI, ok_SL, ok_Pr, ok_CI, cmp_lt, cmp_le, cmp_gt, cmp_ge, cmp_eq, nar0, nar1, Sum.elim_inl, Sum.elim_inr] at w
    simp only [ok_B, ok_C, ok_R, ok_L, ok_K, ok_GI, ok_GL, ok_PI, ok_PL, ok_AI, ok_AL, ok_SI, ok_SL, ok_Pr, ok_CI, cmp_lt, cmp_le, cmp_gt, cmp_ge, cmp_eq, nar0, nar1, Sum.elim_inl, Sum.elim_inr]
    refine ok_mono w fun v s2 hw => ⟨fun c => ?_, fun c => ok_mono (hw.2 c) fun x s3 hq => ?_⟩
    · have hd := hw.1 c
      refine ⟨Vk.mdx h.1 h.2.1 hd, Or.inl ⟨rfl, (Nx.mdx h.1 hd).2.2.2.2.2⟩⟩
    · obtain ⟨x1, x2, x3, hd⟩ := hq
      have e0 : (0 : Int32).toInt8.toInt32.toInt8.toInt32 = 0 := rfl
      rw [e0] at hd
      refine ok_mono (thread_ok s3 (cu s1) n.1) fun v4 s4 ⟨e4, e5⟩ => ?_
      subst e5
      rw [e4]
      have on := on_of s4 (cu s1) x (bs s1 + r) (gI s4 3587 (cu s1)) rfl
      have vk := Vk.mdx h.1 h.2.1 hd
      have rf : a_first (sB (sA (sA s4 62 0 x (-1)) 5 0 x 0) 6 0 x 0) x = -1 := by simp only [a_first, gI_sI, gI_sL, gI_sA, gI_sB, gI_sAf, gI_sBf, gL_sI, gL_sL, gL_sA, gL_sB, gL_sAf, gL_sBf, gA_sI, gA_sL, gA_sA, gA_sB, gA_sAf, gA_sBf, gB_sI, gB_sL, gB_sA, gB_sB, gB_sAf, gB_sBf, Nat.reduceEqDiff, Nat.reduceMul, Nat.reduceAdd, false_and, true_and, and_true, and_false, if_true, if_false]
      have eo : t_openCount (sB (sA (sA s4 62 0 x (-1)) 5 0 x 0) 6 0 x 0) (cu s1) = gI s4 3587 (cu s1) := by simp only [t_openCount, gI_sI, gI_sL, gI_sA, gI_sB, gI_sAf, gI_sBf, gL_sI, gL_sL, gL_sA, gL_sB, gL_sAf, gL_sBf, gA_sI, gA_sL, gA_sA, gA_sB, gA_sAf, gA_sBf, gB_sI, gB_sL, gB_sA, gB_sB, gB_sAf, gB_sBf, Nat.reduceEqDiff, Nat.reduceMul, Nat.reduceAdd, false_and, true_and, and_true, and_false, if_true, if_false]
      generalize sB (sA (sA s4 62 0 x (-1)) 5 0 x 0) 6 0 x 0 = z at *
      have hx : Lv false z x 8 ∧ gI z 73 0 = gI s1 73 0 := by
        rcases hd.2 with ⟨e, w, wl⟩ | ⟨s0, w0, w1, w2, w3, w4, w5⟩
        · rw [e] at x1
          exact absurd x1.1 (by decide)
        · exact ⟨w5, (w3.I 73 (by decide) 0).trans (w1.I 73 (by decide) 0)⟩
      have rz := h.rx vk.1
      have Tz := hT.rx h vk.1
      obtain ⟨d1, d2, d3, d4⟩ := vk.1.same h hT.1 hT.2.1
      have tz := rz.top Tz.1 Tz.2.1
      have pz : 0 ≤ t_place z (cu s1) := by
        rw [← d1]
        exact tz.2.1
      have rr := tz.2.2.2.2.2.2.2.2.2.2.1 r hr.1 (by
        rw [d3, vk.1.reg]
        exact hr.2)
      rw [d4] at rr
      have rr2 : Vl false z (v_stack_k z (cu s1) (bs s1 + r)) (v_stack_v z (cu s1) (bs s1 + r)) := by
        rw [← d1]
        exact rr.2
      have g := rz.1.on on n.1 pz hx.1 (by rw [rf]; decide) rr.1 rr2
      have rx := Rx.on rz.1 on g rz.2.1 hx.1
      have ol := open_lt rz.1 n.1 pz hx.1 (by
        rw [rf]
        intro q
        rw [← q] at n
        exact absurd n.1.1 (by decide))
      rw [eo] at ol
      refine ⟨x1, x1, ⟨ol.1, Int32.lt_of_lt_of_le ol.2 (Int32.le_trans rz.1.used.2 (by decide))⟩, vk.trans (Vk.on on rx), Or.inr ⟨(Lv.on on).mpr hx.1, ?_⟩⟩
      exact (on.I 73 (by decide) 0).trans hx.2
