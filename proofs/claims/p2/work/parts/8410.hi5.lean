/-! The loops' instructions. -/
theorem Run.of {s s' : S1} (h : Run s) (e1 : cu s' = cu s) (e2 : tp s' = tp s) (eA : ∀ a, a = 30 ∨ a = 31 ∨ a = 32 ∨ a = 35 ∨ a = 36 ∨ a = 49 ∨ a = 50 ∨ a = 55 ∨ a = 62 → ∀ i j, gA s' a i j = gA s a i j) : Run s' := by
  have e3 : pq s' = pq s := by
    show gA s' 62 0 (gA s' 31 (cu s') (tp s')) = gA s 62 0 (gA s 31 (cu s) (tp s))
    rw [e1, e2, eA 31 (by decide), eA 62 (by decide)]
  have e5 : ∀ p q, wd s' p q = wd s p q := fun p q => by
    show gA s' 55 0 (gA s' 49 0 p + q) = gA s 55 0 (gA s 49 0 p + q)
    rw [eA 49 (by decide), eA 55 (by decide)]
  unfold Run at *
  rw [e1, e2, e3]
  simp only [e5]
  simp only [t_kind, t_pc, t_rowCount, t_rowAt, a_codes, eA 30 (by decide), eA 32 (by decide), eA 35 (by decide), eA 36 (by decide), eA 50 (by decide)] at *
  exact h
theorem Out.ss {s s' : S1} (h : Out s) (hs : Ss s s') : Out s' := by
  obtain ⟨g, z, hh, o⟩ := h
  have fr : ∀ τ, Fr τ s → Fr τ s' := fun τ f => f.hz hs.hy.hz
  have e : ∀ f, gI s' f 0 = gI s f 0 := fun f => hs.1 f 0
  refine ⟨g.ss hs, (e 92).trans z, (e 2050).trans hh, ?_⟩
  have e73 : f_todo s' = f_todo s := e 73
  rw [e73]
  rcases o with ⟨a, b, c⟩ | ⟨a, b⟩ | ⟨a, b, c⟩ | ⟨a, b, c⟩
  · refine Or.inl ⟨a, fr _ b, c.of (hs.1 72 0) ?_ fun x hx i j => hs.A x (by rcases hx with w | w | w | w | w | w | w | w | w <;> rw [w] <;> decide) i j⟩
    show gI s' 3586 (gI s' 72 0) - 1 = gI s 3586 (gI s 72 0) - 1
    rw [hs.1, hs.1]
  · exact Or.inr (Or.inl ⟨a, fr _ b⟩)
  · refine Or.inr (Or.inr (Or.inl ⟨a, fr _ b, ?_⟩))
    show gI s' 898 0 ≤ 250
    rw [e]
    exact c
  · refine Or.inr (Or.inr (Or.inr ⟨a, fr _ b, ?_⟩))
    show gI s' 1282 0 ≤ 250
    rw [e]
    exact c
/-- a number's value is changed where it lies -/
theorem num_ss {s : S1} {t r : Int32} {x : Int64} (hk : gA s 20 t r = 3) : Ss s (sB s 21 t r x) := by
  refine ⟨fun _ _ => rfl, fun _ _ => rfl, fun _ _ _ _ => rfl, fun a i j q => ?_, fun u j hv => ?_⟩
  · rw [gB_sB, if_neg (fun z => q z.1)]
  · simp only [v_stack_k, v_stack_v, gI_sI, gI_sL, gI_sA, gI_sB, gI_sAf, gI_sBf, gL_sI, gL_sL, gL_sA, gL_sB, gL_sAf, gL_sBf, gA_sI, gA_sL, gA_sA, gA_sB, gA_sAf, gA_sBf, gB_sI, gB_sL, gB_sA, gB_sB, gB_sAf, gB_sBf, Nat.reduceEqDiff, Nat.reduceMul, Nat.reduceAdd, false_and, true_and, and_true, and_false, if_true, if_false] at *
    by_cases c : u = t ∧ j = r
    · rw [c.1, c.2, hk]
      exact Or.inl ⟨by decide, by decide⟩
    · rw [if_neg c]
      exact hv
theorem Ic.ss {s s' : S1} {i : Int32} (h : Ic s i) (hs : Ss s s') : Ic s' i ∧ Rx s s' := by
  have rx := Rx.hy (h.1.1.ss hs) hs.hy h.1.2.1
  exact ⟨h.rx rx (hs.1 73 0) (hs.1 2050 0), rx⟩
theorem r3_num {a r : Int32} (ha : 0 ≤ a ∧ a ≤ 255) (h : a + 3 < r) (hr : r < 251) : (0 ≤ a + 1 ∧ a + 1 < r) ∧ (0 ≤ a + 2 ∧ a + 2 < r) ∧ (0 ≤ a + 3) ∧ a < r := by
  exact ⟨⟨by grind, by grind⟩, ⟨by grind, by grind⟩, by grind, by grind⟩
/-- the jump of an instruction with sbx -/
theorem Ic.jumpX {s : S1} {i : Int32} (h : Ic s i) (hu : ¬ us (wd s (pq s) i)) (hg : Gs s (pq s) (i + 1 + (iX (wd s (pq s) i) - 131071))) (f g : Int32) (ef : f = cu s) (eg : g = tp s) : Out (sA s 32 f g (gA s 32 f g + (iX (wd s (pq s) i) - 131071))) := by
  subst ef eg
  rw [pc_in h]
  exact h.jump hu hg
theorem q_loop_ok (s : S1) (i : Int32) (h : Ic s i) (ho : iO (wd s (pq s) i) = 39) : ok (M_Mo_loop (cu s) (tp s) (wd s (pq s) i) 19 (cu s) (bs s + iA (wd s (pq s) i))) s (fun _ s' => Out s') := by
  obtain ⟨-, -, -, -, -, -, -, -, -, -, -, -, -, -, -, -, -, -, -, -, w39, -⟩ := Wn.all h
  obtain ⟨q1, q2⟩ := w39 ho
  have n := top_num h.1 h.2.1.1 h.2.1.2.1
  have hp : Pl s i := Pl.op (by rw [ho]; decide)
  obtain ⟨t1, t2, t3, t4, t5, t6, t7, t8, t9, t10, t11, -⟩ := h.1.top h.2.1.1 h.2.1.2.1
  have aa := iA_in (wd s (pq s) i)
  obtain ⟨m1, m2, m3, m0⟩ := r3_num aa q1 t7.2.1.2
  have as : ∀ k, bs s + iA (wd s (pq s) i) + k = bs s + (iA (wd s (pq s) i) + k) := fun k => Int32.add_assoc _ _ _
  have rg : ∀ r, 0 ≤ r → r < a_registers s (pq s) → 0 ≤ bs s + r ∧ bs s + r < 4300 := fun r p q => ⟨(t11 r p q).1.1, Int32.lt_trans (t11 r p q).1.2 (by decide)⟩
  have x0 := rg _ aa.1 m0
  have x1 := rg _ m1.1 m1.2
  have x2 := rg _ m2.1 m2.2
  have bad : ok M_Mo_loop_j40 s (fun _ s' => Out s') := by
    simp only [M_Mo_loop_j40, ok_B, ok_C, ok_R, ok_L, ok_K, ok_GI, ok_GL, ok_PI, ok_PL, ok_AI, ok_AL, ok_SI, ok_SL, ok_Pr, ok_CI, cmp_lt, cmp_le, cmp_gt, cmp_ge, cmp_eq, nar0, nar1, Sum.elim_inl, Sum.elim_inr]
    refine ok_mono (q_raise_ok s 3) fun w s2 ⟨ew, es⟩ => ?_
    subst es
    exact h.raise 3 _ (by decide)
  simp only [M_Mo_loop, ok_B, ok_C, ok_R, ok_L, ok_K, ok_GI, ok_GL, ok_PI, ok_PL, ok_AI, ok_AL, ok_SI, ok_SL, ok_Pr, ok_CI, cmp_lt, cmp_le, cmp_gt, cmp_ge, cmp_eq, nar0, nar1, Sum.elim_inl, Sum.elim_inr, as]
  refine ⟨x2, fun _ => ⟨x0, fun k0 => ⟨x1, fun _ => ⟨x0, x2, x0, x2, ?_⟩, fun _ => bad⟩, fun _ => bad⟩, fun _ => bad⟩
  have ss := num_ss (x := gB s 21 (cu s) (bs s + iA (wd s (pq s) i)) + gB s 21 (cu s) (bs s + (iA (wd s (pq s) i) + 2))) k0
  have go : ∀ s1, Ss s s1 → ∀ k, ok (M_Mo_loop_j140 (cu s) (tp s) (wd s (pq s) i) 19 (cu s) (bs s + iA (wd s (pq s) i)) k) s1 (fun _ s' => Out s') := fun s1 ss k => by
    obtain ⟨i1, rx⟩ := h.ss ss
    obtain ⟨d1, d2, d3, d4⟩ := rx.same h.1 h.2.1.1 h.2.1.2.1
    have p1 := hp.of d3 rx.wd
    simp only [M_Mo_loop_j140, M_Mo_sbx, ok_B, ok_C, ok_R, ok_L, ok_K, ok_GI, ok_GL, ok_PI, ok_PL, ok_AI, ok_AL, ok_SI, ok_SL, ok_Pr, ok_CI, cmp_lt, cmp_le, cmp_gt, cmp_ge, cmp_eq, nar0, nar1, Sum.elim_inl, Sum.elim_inr, as]
    refine ⟨fun _ => i1.done p1.1 p1.2.1 p1.2.2, fun _ => ⟨n.2.2, n.2.2, ?_⟩⟩
    have jp := i1.jumpX p1.2.1 (by
      rw [d3, rx.wd]
      have := q2.of d3 rx.wd (fun p => rx.2.2.2.A 50 (by decide) 0 p)
      rw [d3] at this
      exact this) (cu s) (tp s) d1.symm d2.symm
    rw [d3, rx.wd] at jp
    obtain ⟨u1, u2, u3, u4, u5, u6, u7, u8, u9, u10, u11, -⟩ := i1.1.top i1.2.1.1 i1.2.1.2.1
    have d1' : f_current s1 = f_current s := d1
    rw [d1', d3, d4, rx.reg] at u11
    have v0 := (u11 _ aa.1 m0).2
    have y3 := rg _ m3 q1
    generalize gA s1 32 (cu s) (tp s) + (iX (wd s (pq s) i) - 131071) = j at *
    have v0' : Vl false (sA s1 32 (cu s) (tp s) j) (gA (sA s1 32 (cu s) (tp s) j) (19 + 1) (cu s) (bs s + iA (wd s (pq s) i))) (gB (sA s1 32 (cu s) (tp s) j) (19 + 2) (cu s) (bs s + iA (wd s (pq s) i))) := (Vl.hs ((Hw.refl s1).sA (by decide)).hs).mpr v0
    have w := setS_ok (sA s1 32 (cu s) (tp s) j) (cu s) (bs s + (iA (wd s (pq s) i) + 3)) _ _ y3 v0'
    simp only [M_Va_set, ok_B, ok_C, ok_R, ok_L, ok_K, ok_GI, ok_GL, ok_PI, ok_PL, ok_AI, ok_AL, ok_SI, ok_SL, ok_Pr, ok_CI, cmp_lt, cmp_le, cmp_gt, cmp_ge, cmp_eq, nar0, nar1, Sum.elim_inl, Sum.elim_inr, i8_id v0'.kind] at w
    simp only [M_Va_set_, ok_B, ok_C, ok_R, ok_L, ok_K, ok_GI, ok_GL, ok_PI, ok_PL, ok_AI, ok_AL, ok_SI, ok_SL, ok_Pr, ok_CI, cmp_lt, cmp_le, cmp_gt, cmp_ge, cmp_eq, nar0, nar1, Sum.elim_inl, Sum.elim_inr, i8_id v0'.kind]
    exact ⟨⟨x0.1, x0.2⟩, w.1, ⟨x0.1, x0.2⟩, w.2.1, jp.ss w.2.2.2⟩
  generalize sB s 21 (cu s) (bs s + iA (wd s (pq s) i)) (gB s 21 (cu s) (bs s + iA (wd s (pq s) i)) + gB s 21 (cu s) (bs s + (iA (wd s (pq s) i) + 2))) = s1 at *
  exact ⟨fun _ => ⟨x0, x1, fun _ => go s1 ss 0, fun _ => go s1 ss 1⟩, fun _ => ⟨x0, x1, fun _ => go s1 ss 0, fun _ => go s1 ss 1⟩⟩
theorem op40_ok (s : S1) (i : Int32) (h : Ic s i) (ho : iO (wd s (pq s) i) = 40) : ok (oB (oAI 20 4300 (cu s) (bs s + iA (wd s (pq s) i) + 1)) fun v374 =>
    oC (v374 = 3)
      (oB (oAI 20 4300 (cu s) (bs s + iA (wd s (pq s) i) + 2)) fun v388 =>
      oC (v388 = 3)
        (oB (oAI 20 4300 (cu s) (bs s + iA (wd s (pq s) i))) fun v400 =>
        oC (v400 = 3)
          (oB (oAL 21 4300 (cu s) (bs s + iA (wd s (pq s) i))) fun v422 =>
          oB (oAL 21 4300 (cu s) (bs s + iA (wd s (pq s) i) + 2)) fun v432 =>
          oB (oSL 21 4300 (cu s) (bs s + iA (wd s (pq s) i)) (v422 - v432)) fun _ =>
          oB (oAI 32 201 (cu s) (tp s)) fun v441 =>
          oB (oSI 32 201 (cu s) (tp s) (v441 + (iX (wd s (pq s) i) - 131071))) fun _ =>
          oR ())
          (M_Mo_high_j405))
        (M_Mo_high_j405))
      (M_Mo_high_j405)) s (fun _ s' => Out s') := by
  obtain ⟨-, -, -, -, -, -, -, -, -, -, -, -, -, -, -, -, -, -, -, -, -, w40, -⟩ := Wn.all h
  obtain ⟨q1, q2⟩ := w40 ho
  have n := top_num h.1 h.2.1.1 h.2.1.2.1
  have hp : Pl s i := Pl.op (by rw [ho]; decide)
  obtain ⟨t1, t2, t3, t4, t5, t6, t7, t8, t9, t10, t11, -⟩ := h.1.top h.2.1.1 h.2.1.2.1
  have aa := iA_in (wd s (pq s) i)
  obtain ⟨m1, m2, m3, m0⟩ := r3_num aa q1 t7.2.1.2
  have as : ∀ k, bs s + iA (wd s (pq s) i) + k = bs s + (iA (wd s (pq s) i) + k) := fun k => Int32.add_assoc _ _ _
  have rg : ∀ r, 0 ≤ r → r < a_registers s (pq s) → 0 ≤ bs s + r ∧ bs s + r < 4300 := fun r p q => ⟨(t11 r p q).1.1, Int32.lt_trans (t11 r p q).1.2 (by decide)⟩
  have x0 := rg _ aa.1 m0
  have x1 := rg _ m1.1 m1.2
  have x2 := rg _ m2.1 m2.2
  have bad : ok M_Mo_high_j405 s (fun _ s' => Out s') := by
    simp only [M_Mo_high_j405, ok_B, ok_C, ok_R, ok_L, ok_K, ok_GI, ok_GL, ok_PI, ok_PL, ok_AI, ok_AL, ok_SI, ok_SL, ok_Pr, ok_CI, cmp_lt, cmp_le, cmp_gt, cmp_ge, cmp_eq, nar0, nar1, Sum.elim_inl, Sum.elim_inr]
    refine ok_mono (q_raise_ok s 3) fun w s2 ⟨ew, es⟩ => ?_
    subst es
    exact h.raise 3 _ (by decide)
  simp only [ok_B, ok_C, ok_R, ok_L, ok_K, ok_GI, ok_GL, ok_PI, ok_PL, ok_AI, ok_AL, ok_SI, ok_SL, ok_Pr, ok_CI, cmp_lt, cmp_le, cmp_gt, cmp_ge, cmp_eq, nar0, nar1, Sum.elim_inl, Sum.elim_inr, as]
  refine ⟨x1, fun _ => ⟨x2, fun _ => ⟨x0, fun k0 => ⟨x0, x2, x0, n.2.2, n.2.2, ?_⟩, fun _ => bad⟩, fun _ => bad⟩, fun _ => bad⟩
  have ss := num_ss (x := gB s 21 (cu s) (bs s + iA (wd s (pq s) i)) - gB s 21 (cu s) (bs s + (iA (wd s (pq s) i) + 2))) k0
  generalize sB s 21 (cu s) (bs s + iA (wd s (pq s) i)) (gB s 21 (cu s) (bs s + iA (wd s (pq s) i)) - gB s 21 (cu s) (bs s + (iA (wd s (pq s) i) + 2))) = s1 at *
  obtain ⟨i1, rx⟩ := h.ss ss
  obtain ⟨d1, d2, d3, d4⟩ := rx.same h.1 h.2.1.1 h.2.1.2.1
  have p1 := hp.of d3 rx.wd
  have jp := i1.jumpX p1.2.1 (by
    rw [d3, rx.wd]
    have := q2.of d3 rx.wd (fun p => rx.2.2.2.A 50 (by decide) 0 p)
    rw [d3] at this
    exact this) (cu s) (tp s) d1.symm d2.symm
  rw [d3, rx.wd] at jp
  exact jp
theorem c41_num {a c r : Int32} (ha : 0 ≤ a ∧ a ≤ 255) (hc : 0 ≤ c ∧ c ≤ 511) (h0 : 0 < c) (h : a + 2 + c < r) (hr : r < 251) : (0 ≤ a + 1 ∧ a + 1 < r) ∧ (0 ≤ a + 2 ∧ a + 2 < r) ∧ a < r ∧ 0 ≤ c ∧ 0 ≤ a + 3 ∧ a + 3 ≤ 300 ∧ c ≤ 600 ∧ a + 3 + c ≤ r := by
  have k0 : (0 : Int32).toInt = 0 := rfl
  have k1 : (1 : Int32).toInt = 1 := rfl
  have k2 : (2 : Int32).toInt = 2 := rfl
  have k3 : (3 : Int32).toInt = 3 := rfl
  have k4 : (300 : Int32).toInt = 300 := rfl
  have k5 : (255 : Int32).toInt = 255 := rfl
  have k6 : (511 : Int32).toInt = 511 := rfl
  have k7 : (600 : Int32).toInt = 600 := rfl
  have kr : (251 : Int32).toInt = 251 := rfl
  simp only [i32_le, i32_lt, k0, k4, k5, k6, k7, kr] at ha hc h0 hr h ⊢
  have y1 := tI_add (a := a) (b := 1) (by rw [k1]; omega)
  have y2 := tI_add (a := a) (b := 2) (by rw [k2]; omega)
  have y3 := tI_add (a := a) (b := 3) (by rw [k3]; omega)
  have y4 := tI_add (a := a + 2) (b := c) (by rw [y2, k2]; omega)
  have y5 := tI_add (a := a + 3) (b := c) (by rw [y3, k3]; omega)
  rw [y4, y2, k2] at h
  rw [y5, y1, y2, y3, k1, k2, k3]
  omega
theorem op41_ok (s : S1) (i : Int32) (h : Ic s i) (ho : iO (wd s (pq s) i) = 41) : ok (oB (oPI 898 0 0) fun _ =>
    oB (M_Va_add_ 7 0 19 (cu s) (bs s + iA (wd s (pq s) i) + 1)) fun _ =>
    oB (M_Va_add_ 7 0 19 (cu s) (bs s + iA (wd s (pq s) i) + 2)) fun _ =>
    oB (M_Mo_expect 0 (iA (wd s (pq s) i) + 3) (iC (wd s (pq s) i))) fun _ =>
    oB (oAI 20 4300 (cu s) (bs s + iA (wd s (pq s) i))) fun v511 =>
    oB (oPI 75 0 v511) fun _ =>
    oB (oAL 21 4300 (cu s) (bs s + iA (wd s (pq s) i))) fun v523 =>
    oB (oPL 76 0 v523) fun _ =>
    oB (oPI 73 0 1) fun _ =>
    oR ()) s (fun _ s' => Out s') := by
  obtain ⟨-, -, -, -, -, -, -, -, -, -, -, -, -, -, -, -, -, -, -, -, -, -, w41, -⟩ := Wn.all h
  obtain ⟨q1, q2⟩ := w41 ho
  have hp : Pl s i := Pl.op (by rw [ho]; decide)
  obtain ⟨t1, t2, t3, t4, t5, t6, t7, t8, t9, t10, t11, -⟩ := h.1.top h.2.1.1 h.2.1.2.1
  have aa := iA_in (wd s (pq s) i)
  have nn := c41_num aa (iC_in (wd s (pq s) i)) q1 q2 t7.2.1.2
  have as : ∀ k, bs s + iA (wd s (pq s) i) + k = bs s + (iA (wd s (pq s) i) + k) := fun k => Int32.add_assoc _ _ _
  have rg : ∀ r, 0 ≤ r → r < a_registers s (pq s) → (0 ≤ bs s + r ∧ bs s + r < 4300) ∧ Vl false s (gA s 20 (cu s) (bs s + r)) (gB s 21 (cu s) (bs s + r)) := fun r p q => ⟨⟨(t11 r p q).1.1, Int32.lt_trans (t11 r p q).1.2 (by decide)⟩, (t11 r p q).2⟩
  have x0 := rg _ aa.1 nn.2.2.1
  have x1 := rg _ nn.1.1 nn.1.2
  have x2 := rg _ nn.2.1.1 nn.2.1.2
  have ag0 := zero7 h.1.1
  have e0 : gI (sI s 898 0 0) 898 0 = 0 := by simp only [gI_sI, gI_sL, gI_sA, gI_sB, gI_sAf, gI_sBf, gL_sI, gL_sL, gL_sA, gL_sB, gL_sAf, gL_sBf, gA_sI, gA_sL, gA_sA, gA_sB, gA_sAf, gA_sBf, gB_sI, gB_sL, gB_sA, gB_sB, gB_sAf, gB_sBf, Nat.reduceEqDiff, Nat.reduceMul, Nat.reduceAdd, false_and, true_and, and_true, and_false, if_true, if_false]
  simp only [ok_B, ok_C, ok_R, ok_L, ok_K, ok_GI, ok_GL, ok_PI, ok_PL, ok_AI, ok_AL, ok_SI, ok_SL, ok_Pr, ok_CI, cmp_lt, cmp_le, cmp_gt, cmp_ge, cmp_eq, nar0, nar1, Sum.elim_inl, Sum.elim_inr, as]
  generalize sI s 898 0 0 = z at *
  have y1 : Vl false z (gA z 20 (cu s) (bs s + (iA (wd s (pq s) i) + 1))) (gB z 21 (cu s) (bs s + (iA (wd s (pq s) i) + 1))) := by
    rw [ag0.2.2.2.1 20 _ _ (by decide), ag0.2.2.2.2 21 _ _ (by decide)]
    exact (Vl.hs ag0.h7).mpr x1.2
  have w1 := addFrom_ok z 7 19 (cu s) (bs s + (iA (wd s (pq s) i) + 1)) (Or.inl rfl) ag0.1 ⟨x1.1.1, x1.1.2, x1.1.2⟩ y1 (by simp only [Nat.reduceMul, Nat.reduceAdd]; rw [e0]; decide)
  refine ok_mono w1 fun _ s1 ⟨ag1, n1⟩ => ?_
  simp only [Nat.reduceMul, Nat.reduceAdd] at n1
  rw [e0] at n1
  have ag01 := ag0.trans ag1
  have y2 : Vl false s1 (gA s1 20 (cu s) (bs s + (iA (wd s (pq s) i) + 2))) (gB s1 21 (cu s) (bs s + (iA (wd s (pq s) i) + 2))) := by
    rw [ag01.2.2.2.1 20 _ _ (by decide), ag01.2.2.2.2 21 _ _ (by decide)]
    exact (Vl.hs ag01.h7).mpr x2.2
  have w2 := addFrom_ok s1 7 19 (cu s) (bs s + (iA (wd s (pq s) i) + 2)) (Or.inl rfl) ag1.1 ⟨x2.1.1, x2.1.2, x2.1.2⟩ y2 (by simp only [Nat.reduceMul, Nat.reduceAdd]; rw [n1]; decide)
  refine ok_mono w2 fun _ s2 ⟨ag2, n2⟩ => ?_
  simp only [Nat.reduceMul, Nat.reduceAdd] at n2
  rw [n1] at n2
  have ag := ag01.trans ag2
  have rx := ag.rx (Or.inl rfl) h.1.2.1
  have i2 := h.rx rx (ag.2.1 73 0 (by decide)) (ag.2.1 2050 0 (by decide))
  obtain ⟨d1, d2, d3, d4⟩ := rx.same h.1 h.2.1.1 h.2.1.2.1
  have m2 := top_num i2.1 i2.2.1.1 i2.2.1.2.1
  have p2 := hp.of d3 rx.wd
  refine ok_mono (expect_ok s2 0 _ _ i2.1.1 m2.1 m2.2.1) fun _ s3 ⟨es, g3, ec⟩ => ⟨x0.1, x0.1, ?_⟩
  have e20 : gA s3 20 (cu s) (bs s + iA (wd s (pq s) i)) = gA s 20 (cu s) (bs s + iA (wd s (pq s) i)) := by
    rw [es]
    simp only [gI_sI, gI_sL, gI_sA, gI_sB, gI_sAf, gI_sBf, gL_sI, gL_sL, gL_sA, gL_sB, gL_sAf, gL_sBf, gA_sI, gA_sL, gA_sA, gA_sB, gA_sAf, gA_sBf, gB_sI, gB_sL, gB_sA, gB_sB, gB_sAf, gB_sBf, Nat.reduceEqDiff, Nat.reduceMul, Nat.reduceAdd, false_and, true_and, and_true, and_false, if_true, if_false]
    exact ag.2.2.2.1 20 _ _ (by decide)
  have e21 : gB (sI s3 75 0 (gA s3 20 (cu s) (bs s + iA (wd s (pq s) i)))) 21 (cu s) (bs s + iA (wd s (pq s) i)) = gB s 21 (cu s) (bs s + iA (wd s (pq s) i)) := by
    rw [gB_sI, es]
    exact ag.2.2.2.2 21 _ _ (by decide)
  rw [e21, e20]
  have hs3 : Hs s2 s3 := by
    rw [es]
    exact (((Hw.refl s2).sA (by decide)).sA (by decide)).sA (by decide) |>.hs
  refine i2.callTo ec g3 ((Vl.hs hs3).mpr ((Vl.hs ag.h7).mpr x0.2)) ?_ ?_ p2 (Or.inr (Or.inr (Or.inr (Or.inl ⟨rfl, nn.2.2.2.1, nn.2.2.2.2.1, nn.2.2.2.2.2.1, nn.2.2.2.2.2.2.1, ?_⟩))))
  · rw [es]
    exact i2.2.2.2
  · rw [es]
    show gI s2 898 0 ≤ 250
    rw [n2]
    decide
  · rw [d3, rx.reg]
    exact nn.2.2.2.2.2.2.2
theorem op42_ok (s : S1) (i : Int32) (h : Ic s i) (ho : iO (wd s (pq s) i) = 42) : ok (oB (oAI 20 4300 (cu s) (bs s + iA (wd s (pq s) i) + 1)) fun v544 =>
    oC (v544 = 0)
      (oR ())
      (oB (M_Va_set_ 19 (cu s) (bs s + iA (wd s (pq s) i)) 19 (cu s) (bs s + iA (wd s (pq s) i) + 1)) fun _ =>
      oB (oAI 32 201 (cu s) (tp s)) fun v570 =>
      oB (oSI 32 201 (cu s) (tp s) (v570 + (iX (wd s (pq s) i) - 131071))) fun _ =>
      oR ())) s (fun _ s' => Out s') := by
  obtain ⟨-, -, -, -, -, -, -, -, -, -, -, -, -, -, -, -, -, -, -, -, -, -, -, w42, -⟩ := Wn.all h
  obtain ⟨q1, q2⟩ := w42 ho
  have n := top_num h.1 h.2.1.1 h.2.1.2.1
  have hp : Pl s i := Pl.op (by rw [ho]; decide)
  obtain ⟨t1, t2, t3, t4, t5, t6, t7, t8, t9, t10, t11, -⟩ := h.1.top h.2.1.1 h.2.1.2.1
  have aa := iA_in (wd s (pq s) i)
  have na := a1_num aa q1 t7.2.1.2
  have as : bs s + iA (wd s (pq s) i) + 1 = bs s + (iA (wd s (pq s) i) + 1) := Int32.add_assoc _ _ _
  obtain ⟨x1, x2⟩ := t11 _ na.2 q1
  have x3 : bs s + (iA (wd s (pq s) i) + 1) < 4300 := Int32.lt_trans x1.2 (by decide)
  simp only [ok_B, ok_C, ok_R, ok_L, ok_K, ok_GI, ok_GL, ok_PI, ok_PL, ok_AI, ok_AL, ok_SI, ok_SL, ok_Pr, ok_CI, cmp_lt, cmp_le, cmp_gt, cmp_ge, cmp_eq, nar0, nar1, Sum.elim_inl, Sum.elim_inr, as]
  refine ⟨⟨x1.1, x3⟩, fun _ => h.done hp.1 hp.2.1 hp.2.2, fun _ => ok_mono (h.setFrom 19 ⟨aa.1, na.1⟩ ⟨x1.1, x3, x3⟩ x2) fun _ s1 ⟨i1, ss, e2, e3, e4, e5, e6⟩ => ⟨n.2.2, n.2.2, ?_⟩⟩
  have p1 := hp.of e3 e2
  have jp := i1.jumpX p1.2.1 (by
    rw [e3, e2]
    have := q2.of e3 e2 (fun p => ss.A 50 (by decide) 0 p)
    rw [e3] at this
    exact this) (cu s) (tp s) e4.symm e5.symm
  rw [e3, e2] at jp
  exact jp
