/-! Comparison and length; upvalues. -/
theorem str_in {s : S1} {x : Int32} (h : GG s) (hx : Lv false s x 4) : (0 ≤ a_first s x ∧ a_first s x ≤ 400000) ∧ (0 ≤ a_second s x ∧ a_second s x ≤ 400000) ∧ a_first s x + a_second s x ≤ 400000 ∧ (0 ≤ x ∧ x < 4100) := by
  have q := h.1.1.2.1.2.1 x hx.1 hx.2.1 hx.2.2.1
  exact ⟨⟨q.1, q.2.2.1⟩, ⟨q.2.1, q.2.2.2.1⟩, Int32.le_trans q.2.2.2.2 h.1.1.2.1.1.2, hx.1, Int32.lt_trans (Int32.lt_of_lt_of_le hx.2.1 h.used.2) (by decide)⟩
theorem q_order_ok (s : S1) (x y : Int32) (h : GG s) (hx : Lv false s x 4) (hy : Lv false s y 4) : ok (M_Mo_order x y) s (fun _ s' => s' = s) := by
  obtain ⟨x1, x2, x3, x4⟩ := str_in h hx
  obtain ⟨y1, y2, y3, y4⟩ := str_in h hy
  simp only [M_Mo_order, ok_B, ok_C, ok_R, ok_L, ok_K, ok_GI, ok_GL, ok_PI, ok_PL, ok_AI, ok_AL, ok_SI, ok_SL, ok_Pr, ok_CI, cmp_lt, cmp_le, cmp_gt, cmp_ge, cmp_eq, nar0, nar1, Sum.elim_inl, Sum.elim_inr]
  refine ⟨x4, y4, ?_⟩
  refine ok_mono (P := fun n s' => s' = s ∧ n ≤ a_second s x ∧ n ≤ a_second s y) ?_ fun n s1 ⟨es, n1, n2⟩ => ?_
  · simp only [M_Mth_min, ok_B, ok_C, ok_R, ok_L, ok_K, ok_GI, ok_GL, ok_PI, ok_PL, ok_AI, ok_AL, ok_SI, ok_SL, ok_Pr, ok_CI, cmp_lt, cmp_le, cmp_gt, cmp_ge, cmp_eq, nar0, nar1, Sum.elim_inl, Sum.elim_inr]
    exact ⟨fun c => ⟨by trivial, Int32.le_of_lt c, Int32.le_refl _⟩, fun c => ⟨by trivial, Int32.le_refl _, Int32.not_lt.mp c⟩⟩
  subst es
  refine ok_mono (ok_W (Q := fun y' s' => s' = s1 ∧ Sum.elim (fun _ => True) (fun z => z.1 = x ∧ z.2 = y) y') (fun z s' => s' = s1 ∧ z.1 = x ∧ z.2.1 = y ∧ z.2.2.1 = n ∧ 0 ≤ z.2.2.2) (fun z _ => (n - z.2.2.2).toNatClampNeg) ?_ _ _ ⟨rfl, rfl, rfl, rfl, (show (0 : Int32) ≤ 0 by decide)⟩) ?_
  · rintro ⟨a, b, n', k⟩ s2 ⟨es, e1, e2, e3, k0⟩
    dsimp only at e1 e2 e3 k0
    subst es e1 e2 e3
    simp only [M_Mo_order_L19, ok_B, ok_C, ok_R, ok_L, ok_K, ok_GI, ok_GL, ok_PI, ok_PL, ok_AI, ok_AL, ok_SI, ok_SL, ok_Pr, ok_CI, cmp_lt, cmp_le, cmp_gt, cmp_ge, cmp_eq, nar0, nar1, Sum.elim_inl, Sum.elim_inr]
    refine ⟨fun c => ⟨by trivial, by trivial, by trivial⟩, fun c => ?_⟩
    have hk := Int32.not_le.mp c
    have i1 := add_in (a := a_first s2 a) (i := k) (n := a_second s2 a) (L := 400000) x1 k0 (Int32.lt_of_lt_of_le hk n1) x2.2 x3
    have i2 := add_in (a := a_first s2 b) (i := k) (n := a_second s2 b) (L := 400000) y1 k0 (Int32.lt_of_lt_of_le hk n2) y2.2 y3
    have st : 0 ≤ k + 1 ∧ (n' - (k + 1)).toNatClampNeg < (n' - k).toNatClampNeg := by
      clear i1 i2 h hx hy
      exact ⟨by grind, clamp_lt (by grind) (by grind)⟩
    exact ⟨x4, i1, y4, i2, fun _ => ⟨⟨by trivial, by trivial, by trivial, by trivial, st.1⟩, st.2⟩, fun _ => ⟨by trivial, by trivial⟩⟩
  · rintro (y' | ⟨a, b⟩) s2 ⟨es, hz⟩
    · subst es
      simp only [ok_B, ok_C, ok_R, ok_L, ok_K, ok_GI, ok_GL, ok_PI, ok_PL, ok_AI, ok_AL, ok_SI, ok_SL, ok_Pr, ok_CI, cmp_lt, cmp_le, cmp_gt, cmp_ge, cmp_eq, nar0, nar1, Sum.elim_inl, Sum.elim_inr]
    · subst es
      simp only [Sum.elim_inr] at hz
      obtain ⟨e1, e2⟩ := hz
      subst e1 e2
      simp only [ok_B, ok_C, ok_R, ok_L, ok_K, ok_GI, ok_GL, ok_PI, ok_PL, ok_AI, ok_AL, ok_SI, ok_SL, ok_Pr, ok_CI, cmp_lt, cmp_le, cmp_gt, cmp_ge, cmp_eq, nar0, nar1, Sum.elim_inl, Sum.elim_inr]
      exact ⟨x4, y4, by trivial⟩
theorem cmp282_ok (s : S1) (i k : Int32) (h : Ic s i) (hp : Pl s i) (hg : Gs s (pq s) (i + 2)) : ok (M_Mo_compare_j282 (cu s) (tp s) (wd s (pq s) i) k) s (fun _ s' => Out s') := by
  have n := top_num h.1 h.2.1.1 h.2.1.2.1
  have sk := h.jump hp.2.1 hg
  have go : ∀ a b, ok (M_Mo_compare_j298 (cu s) (tp s) a b) s (fun _ s' => Out s') := fun a b => by
    simp only [M_Mo_compare_j298, ok_B, ok_C, ok_R, ok_L, ok_K, ok_GI, ok_GL, ok_PI, ok_PL, ok_AI, ok_AL, ok_SI, ok_SL, ok_Pr, ok_CI, cmp_lt, cmp_le, cmp_gt, cmp_ge, cmp_eq, nar0, nar1, Sum.elim_inl, Sum.elim_inr, pc_in h, add2]
    exact ⟨fun _ => h.done hp.1 hp.2.1 hp.2.2, fun _ => ⟨n.2.2, n.2.2, sk⟩⟩
  simp only [M_Mo_compare_j282, M_Mo_a, ok_B, ok_C, ok_R, ok_L, ok_K, ok_GI, ok_GL, ok_PI, ok_PL, ok_AI, ok_AL, ok_SI, ok_SL, ok_Pr, ok_CI, cmp_lt, cmp_le, cmp_gt, cmp_ge, cmp_eq, nar0, nar1, Sum.elim_inl, Sum.elim_inr]
  exact ⟨fun _ => go _ _, fun _ => go _ _⟩
theorem cmp235_ok (s : S1) (i k1 k2 : Int32) (v1 v2 : Int64) (h : Ic s i) (h1 : Vl false s k1 v1) (h2 : Vl false s k2 v2) (hp : Pl s i) (hg : Gs s (pq s) (i + 2)) (o : Int32) : ok (M_Mo_compare_j235 (wd s (pq s) i) o k1 v1 k2 v2) s (fun _ s' => Out s') := by
  have n := top_num h.1 h.2.1.1 h.2.1.2.1
  simp only [M_Mo_compare_j235, M_Mo_a, ok_B, ok_C, ok_R, ok_L, ok_K, ok_GI, ok_GL, ok_PI, ok_PL, ok_AI, ok_AL, ok_SI, ok_SL, ok_Pr, ok_CI, cmp_lt, cmp_le, cmp_gt, cmp_ge, cmp_eq, nar0, nar1, Sum.elim_inl, Sum.elim_inr]
  refine ok_mono (expect_ok s 2 (iA (wd s (pq s) i)) 1 h.1.1 n.1 n.2.1) fun _ s1 ⟨e1, g1, ec⟩ => ?_
  have hs : Hs s s1 := by
    rw [e1]
    exact (((Hw.refl s).sA (by decide)).sA (by decide)).sA (by decide) |>.hs
  have h0 : gI s1 2050 0 = 0 := by
    rw [e1]
    exact h.2.2.2
  have go : ∀ e, 0 ≤ e ∧ e < 22 → ok (M_Mo_compare_j261 k1 v1 k2 v2 e) s1 (fun _ s' => Out s') := fun e he => by
    simp only [M_Mo_compare_j261, ok_B, ok_C, ok_R, ok_L, ok_K, ok_GI, ok_GL, ok_PI, ok_PL, ok_AI, ok_AL, ok_SI, ok_SL, ok_Pr, ok_CI, cmp_lt, cmp_le, cmp_gt, cmp_ge, cmp_eq, nar0, nar1, Sum.elim_inl, Sum.elim_inr]
    refine ok_mono (q_either_ok s s1 i 2 _ 1 e k1 k2 v1 v2 h ec g1 h0 ((Vl.hs hs).mpr h1) ((Vl.hs hs).mpr h2) he hp (Or.inr (Or.inr (Or.inl ⟨rfl, hg⟩)))) fun r s3 ⟨q1, q2, _⟩ => ⟨fun c => ?_, fun c => q1 c⟩
    have gf := q2 c
    have r3 := (ec.ri h.1 g1).rx (Rx.hx g1 gf.hx gf.hy ((ec.1 92 0 (by decide)).trans h.1.2.1))
    refine ok_mono (q_raise_ok s3 3) fun w s4 ⟨ew, es⟩ => ?_
    subst es
    exact raise_out r3 ((gf.I 2050 (by decide) 0).trans h0) 3 _ (by decide)
  exact ⟨fun _ => go 18 ⟨by decide, by decide⟩, fun _ => go 19 ⟨by decide, by decide⟩⟩
theorem cmp75_ok (s : S1) (i k1 k2 k0 : Int32) (v1 v2 : Int64) (h : Ic s i) (h1 : Vl false s k1 v1) (h2 : Vl false s k2 v2) (hp : Pl s i) (hg : Gs s (pq s) (i + 2)) : ok (M_Mo_compare_j75 (cu s) (tp s) (wd s (pq s) i) k1 v1 k2 v2 k0) s (fun _ s' => Out s') := by
  have n := top_num h.1 h.2.1.1 h.2.1.2.1
  have el := cmp282_ok s i k0 h hp hg
  simp only [M_Mo_compare_j75, M_Mo_a, ok_B, ok_C, ok_R, ok_L, ok_K, ok_GI, ok_GL, ok_PI, ok_PL, ok_AI, ok_AL, ok_SI, ok_SL, ok_Pr, ok_CI, cmp_lt, cmp_le, cmp_gt, cmp_ge, cmp_eq, nar0, nar1, Sum.elim_inl, Sum.elim_inr]
  refine ⟨fun _ => ⟨fun _ => ⟨fun _ => ?_, fun _ => el⟩, fun _ => el⟩, fun _ => el⟩
  refine ok_mono (expect_ok s 2 (iA (wd s (pq s) i)) 1 h.1.1 n.1 n.2.1) fun _ s1 ⟨e1, g1, ec⟩ => ?_
  have hs : Hs s s1 := by
    rw [e1]
    exact (((Hw.refl s).sA (by decide)).sA (by decide)).sA (by decide) |>.hs
  have h0 : gI s1 2050 0 = 0 := by
    rw [e1]
    exact h.2.2.2
  refine ok_mono (q_either_ok s s1 i 2 _ 1 17 k1 k2 v1 v2 h ec g1 h0 ((Vl.hs hs).mpr h1) ((Vl.hs hs).mpr h2) ⟨by decide, by decide⟩ hp (Or.inr (Or.inr (Or.inl ⟨rfl, hg⟩)))) fun r s3 ⟨q1, q2, _⟩ => ⟨fun c => ?_, fun c => q1 c⟩
  have gf := q2 c
  have i1 := ec.ic h g1 (by rw [e1]; rfl) (by rw [e1]; rfl)
  have i3 := gf.ic i1
  obtain ⟨a1, a2, a3, a4, a5, a6, -⟩ := ec.same
  obtain ⟨b1, b2, b3, b4, b5, b6⟩ := gf.same
  have g3 : Gs s3 (pq s3) (i + 2) := by
    unfold Gs at *
    rw [b3, a3, b5, a4]
    have : a_codes s3 (pq s) = a_codes s (pq s) := by
      have w : a_codes s3 (pq s) = a_codes s1 (pq s) := gf.hy.2.1 50 0 _ (by decide)
      rw [w]
      exact a5 _
    rw [this]
    exact hg
  have w := cmp282_ok s3 i k0 i3 ((hp.of a3 a4).of b3 b5) g3
  rw [b1, a1, b2, a2, b3, a3, b5, a4] at w
  exact w
theorem compare_ok (s : S1) (i : Int32) (h : Ic s i) (ho : iO (wd s (pq s) i) = 31 ∨ iO (wd s (pq s) i) = 32 ∨ iO (wd s (pq s) i) = 33) : ok (M_Mo_compare (cu s) (tp s) (pq s) (wd s (pq s) i) (iO (wd s (pq s) i))) s (fun _ s' => Out s') := by
  obtain ⟨w0, w1, w3, w4, w5, w6, w7, w8, w10, w11, w12, w13, w29, w30, w31, w34, w35, w36, w37, w38, w39, w40, w41, w42, w43, w44, w45, wl, x2, x17, x18⟩ := Wn.all h
  have q := w31 ho
  have hg : Gs s (pq s) (i + 2) := (h.1.wf h.2.1).2.2.2.1 (by rcases ho with e | e | e <;> rw [e] <;> exact ⟨by decide, by decide⟩)
  have hp : Pl s i := Pl.op (by rcases ho with e | e | e <;> rw [e] <;> decide)
  have key := rk2_ok s i (iB (wd s (pq s) i)) (iC (wd s (pq s) i)) h (iB_in _).1 q.2.1 (iC_in _).1 q.2.2 (fun v13 v19 v37 v43 => oC (iO (wd s (pq s) i) = 31)
    (oC (v13 = v37)
      (oC ((lg_cmp v19 v43) = 0)
        (M_Mo_compare_j75 (cu s) (tp s) (wd s (pq s) i) v13 v19 v37 v43 1)
        (M_Mo_compare_j74 (cu s) (tp s) (wd s (pq s) i) v13 v19 v37 v43))
      (M_Mo_compare_j74 (cu s) (tp s) (wd s (pq s) i) v13 v19 v37 v43))
    (oC (v13 = 3)
      (oC (v37 = 3)
        (oC (iO (wd s (pq s) i) = 32)
          (oC (0 ≤ (lg_cmp v19 v43))
            (M_Mo_compare_j171 (cu s) (tp s) (wd s (pq s) i) 0)
            (M_Mo_compare_j171 (cu s) (tp s) (wd s (pq s) i) 1))
          (oC (0 < (lg_cmp v19 v43))
            (M_Mo_compare_j171 (cu s) (tp s) (wd s (pq s) i) 0)
            (M_Mo_compare_j171 (cu s) (tp s) (wd s (pq s) i) 1)))
        (M_Mo_compare_j176 (cu s) (tp s) (wd s (pq s) i) (iO (wd s (pq s) i)) v13 v19 v37 v43))
      (M_Mo_compare_j176 (cu s) (tp s) (wd s (pq s) i) (iO (wd s (pq s) i)) v13 v19 v37 v43))) (fun _ s' => Out s') (fun s2 k1 v1 k2 v2 i2 hs e1 e2 e3 e4 e5 e6 e7 u1 u2 => by
      have p2 := hp.of e3 e5
      have g2 : Gs s2 (pq s2) (i + 2) := by
        unfold Gs at *
        rw [e3, e5]
        show _ ∧ _ < gA s2 50 0 _ ∧ _
        rw [e6]
        exact hg
      have a1 : ∀ k, ok (M_Mo_compare_j282 (cu s) (tp s) (wd s (pq s) i) k) s2 (fun _ s' => Out s') := fun k => by
        have w := cmp282_ok s2 i k i2 p2 g2
        rw [e1, e2, e3, e5] at w
        exact w
      have a2 : ∀ k, ok (M_Mo_compare_j75 (cu s) (tp s) (wd s (pq s) i) k1 v1 k2 v2 k) s2 (fun _ s' => Out s') := fun k => by
        have w := cmp75_ok s2 i k1 k2 k v1 v2 i2 u1 u2 p2 g2
        rw [e1, e2, e3, e5] at w
        exact w
      have a3 : ok (M_Mo_compare_j235 (wd s (pq s) i) (iO (wd s (pq s) i)) k1 v1 k2 v2) s2 (fun _ s' => Out s') := by
        have w := cmp235_ok s2 i k1 k2 v1 v2 i2 u1 u2 p2 g2 (iO (wd s (pq s) i))
        rw [e3, e5] at w
        exact w
      have a4 : ok (M_Mo_compare_j176 (cu s) (tp s) (wd s (pq s) i) (iO (wd s (pq s) i)) k1 v1 k2 v2) s2 (fun _ s' => Out s') := by
        simp only [M_Mo_compare_j176, M_Mo_compare_j230, ok_B, ok_C, ok_R, ok_L, ok_K, ok_GI, ok_GL, ok_PI, ok_PL, ok_AI, ok_AL, ok_SI, ok_SL, ok_Pr, ok_CI, cmp_lt, cmp_le, cmp_gt, cmp_ge, cmp_eq, nar0, nar1, Sum.elim_inl, Sum.elim_inr]
        refine ⟨fun c => ⟨fun d => ?_, fun _ => a3⟩, fun _ => a3⟩
        refine ok_mono (q_order_ok s2 _ _ i2.1.1 (by have := u1.lv5 (Or.inl c); rw [c] at this; exact this) (by have := u2.lv5 (Or.inl d); rw [d] at this; exact this)) fun r s3 es => ?_
        subst es
        exact ⟨fun _ => ⟨fun _ => a1 0, fun _ => a1 1⟩, fun _ => ⟨fun _ => a1 0, fun _ => a1 1⟩⟩
      simp only [M_Mo_compare_j74, M_Mo_compare_j171, ok_B, ok_C, ok_R, ok_L, ok_K, ok_GI, ok_GL, ok_PI, ok_PL, ok_AI, ok_AL, ok_SI, ok_SL, ok_Pr, ok_CI, cmp_lt, cmp_le, cmp_gt, cmp_ge, cmp_eq, nar0, nar1, Sum.elim_inl, Sum.elim_inr]
      exact ⟨fun _ => ⟨fun _ => ⟨fun _ => a2 1, fun _ => a2 0⟩, fun _ => a2 0⟩, fun _ => ⟨fun _ => ⟨fun _ => ⟨fun _ => ⟨fun _ => a1 0, fun _ => a1 1⟩, fun _ => ⟨fun _ => a1 0, fun _ => a1 1⟩⟩, fun _ => a4⟩, fun _ => a4⟩⟩)
  simp only [M_Mo_compare, M_Mo_b, M_Mo_c, ok_B, ok_C, ok_R, ok_L, ok_K, ok_GI, ok_GL, ok_PI, ok_PL, ok_AI, ok_AL, ok_SI, ok_SL, ok_Pr, ok_CI, cmp_lt, cmp_le, cmp_gt, cmp_ge, cmp_eq, nar0, nar1, Sum.elim_inl, Sum.elim_inr] at key ⊢
  exact key
theorem length_ok (s : S1) (i k : Int32) (v : Int64) (h : Ic s i) (hv : Vl false s k v) (hp : Pl s i) (ha : iA (wd s (pq s) i) < a_registers s (pq s)) : ok (M_Mo_length (iA (wd s (pq s) i)) k v 19 (cu s) (bs s + iA (wd s (pq s) i))) s (fun _ s' => Out s') := by
  have hr : 0 ≤ iA (wd s (pq s) i) ∧ iA (wd s (pq s) i) < a_registers s (pq s) := ⟨(iA_in _).1, ha⟩
  simp only [M_Mo_length, ok_B, ok_C, ok_R, ok_L, ok_K, ok_GI, ok_GL, ok_PI, ok_PL, ok_AI, ok_AL, ok_SI, ok_SL, ok_Pr, ok_CI, cmp_lt, cmp_le, cmp_gt, cmp_ge, cmp_eq, nar0, nar1, Sum.elim_inl, Sum.elim_inr]
  refine ⟨fun c => ?_, fun c => ⟨fun d => ?_, fun d => ok_mono (q_raise_ok s 2) fun w s4 ⟨ew, es⟩ => ?_⟩⟩
  · subst c
    exact ⟨(str_in h.1.1 (hv.lv5 (Or.inl rfl))).2.2.2, h.setDone hr (Or.inl ⟨by decide, by decide⟩) hp⟩
  · subst d
    have hl := hv.lv5 (Or.inr (Or.inl rfl))
    refine ok_mono (meta_ok s 5 16 v h.1.1 h.1.2.2.2.1 hv ⟨by decide, by decide⟩) fun r s1 ⟨gk, gv, es, q2⟩ => ?_
    have g1 : Gf s s1 := Or.inr ⟨gk, gv, es⟩
    have i1 := g1.ic h
    obtain ⟨c1, c2, c3, c4, c5, c6⟩ := g1.same
    refine ⟨fun c => ?_, fun c => ?_⟩
    · refine ok_mono (q_border_ok s1 v.toInt32 i1.1.1 ((Lv.hs g1.hs).mpr hl)) fun b s2 ⟨hk, hw, es2⟩ => ?_
      rw [g1.got] at es2
      have g2 : Gf s s2 := Or.inr ⟨hk, hw, es2⟩
      have i2 := g2.ic h
      obtain ⟨d1, d2, d3, d4, d5, d6⟩ := g2.same
      have w := i2.setDone (r := iA (wd s (pq s) i)) (k := 3) (v := b) (by rw [d3, d6]; exact hr) (Or.inl ⟨by decide, by decide⟩) (hp.of d3 d5)
      rw [d1, d4] at w
      exact w
    · have r66 : gI s1 66 0 = gk ∧ gL s1 67 0 = gv := by
        rw [es]
        simp only [gI_sI, gI_sL, gI_sA, gI_sB, gI_sAf, gI_sBf, gL_sI, gL_sL, gL_sA, gL_sB, gL_sAf, gL_sBf, gA_sI, gA_sL, gA_sA, gA_sB, gA_sAf, gA_sBf, gB_sI, gB_sL, gB_sA, gB_sB, gB_sAf, gB_sBf, Nat.reduceEqDiff, Nat.reduceMul, Nat.reduceAdd, false_and, true_and, and_true, and_false, if_true, if_false]
      rw [r66.1, r66.2]
      have vg : Vl false s1 gk gv := (Vl.hs g1.hs).mpr (q2 c).1
      have a0 := zero7 i1.1.1
      have e0 : gI (sI s1 898 0 0) 898 0 = 0 := by simp only [gI_sI, gI_sL, gI_sA, gI_sB, gI_sAf, gI_sBf, gL_sI, gL_sL, gL_sA, gL_sB, gL_sAf, gL_sBf, gA_sI, gA_sL, gA_sA, gA_sB, gA_sAf, gA_sBf, gB_sI, gB_sL, gB_sA, gB_sB, gB_sAf, gB_sBf, Nat.reduceEqDiff, Nat.reduceMul, Nat.reduceAdd, false_and, true_and, and_true, and_false, if_true, if_false]
      generalize sI s1 898 0 0 = z at *
      refine ok_mono (add7_ok z 5 v a0.1 ((Vl.hs a0.h7).mpr ((Vl.hs g1.hs).mpr hv)) (by rw [e0]; decide)) fun _ s2 ⟨a1, n1⟩ => ?_
      rw [e0] at n1
      have ag := a0.trans a1
      have rx2 := ag.rx (Or.inl rfl) i1.1.2.1
      have i2 := i1.rx rx2 (ag.2.1 73 0 (by decide)) (ag.2.1 2050 0 (by decide))
      obtain ⟨d1, d2, d3, d4⟩ := rx2.same i1.1 i1.2.1.1 i1.2.1.2.1
      have n2 := top_num i2.1 i2.2.1.1 i2.2.1.2.1
      have d5 : ∀ p j, wd s2 p j = wd s1 p j := fun p j => by
        show gA s2 55 0 (gA s2 49 0 p + j) = gA s1 55 0 (gA s1 49 0 p + j)
        rw [ag.2.2.2.1 49 0 _ (by decide), ag.2.2.2.1 55 0 _ (by decide)]
      have p2 := (hp.of c3 c5).of d3 d5
      refine ok_mono (expect_ok s2 1 (iA (wd s (pq s) i)) 1 i2.1.1 n2.1 n2.2.1) fun _ s4 ⟨e4, g4, ec⟩ => ?_
      have q2 : Hs s2 s4 := by
        rw [e4]
        exact (((Hw.refl s2).sA (by decide)).sA (by decide)).sA (by decide) |>.hs
      refine i2.callTo ec g4 ((Vl.hs q2).mpr ((Vl.hs ag.h7).mpr vg)) ?_ ?_ p2 (Or.inl ⟨rfl, hr.1, ?_⟩)
      · rw [e4]
        exact i2.2.2.2
      · rw [e4]
        show gI s2 898 0 ≤ 250
        rw [n1]
        decide
      · rw [d3, c3]
        show _ < gA s2 44 0 _
        rw [ag.2.2.2.1 44 0 _ (by decide)]
        show _ < a_registers s1 _
        rw [c6]
        exact hr.2
  · subst es
    exact h.raise 2 _ (by decide)
theorem up_ok (s : S1) (i k : Int32) (h : Ic s i) (hk : 0 ≤ k ∧ k < a_upvalues s (pq s)) : ok (M_Mo_up (cu s) (tp s) k) s (fun x s' => s' = s ∧ Lv false s x 8) := by
  obtain ⟨t1, t2, t3, t4, t5, t6, t7, t8, t9, t10, t11, t12, t13, t14⟩ := h.1.top h.2.1.1 h.2.1.2.1
  have n := top_num h.1 h.2.1.1 h.2.1.2.1
  have q := t14 k hk.1 hk.2
  have r5 : gI s 9471 0 = 1 := h.1.1.1.1.1.1.2.2.2.2.1
  simp only [M_Mo_up, ok_B, ok_C, ok_R, ok_L, ok_K, ok_GI, ok_GL, ok_PI, ok_PL, ok_AI, ok_AL, ok_SI, ok_SL, ok_Pr, ok_CI, cmp_lt, cmp_le, cmp_gt, cmp_ge, cmp_eq, nar0, nar1, Sum.elim_inl, Sum.elim_inr]
  exact ⟨r5, n.2.2, t5, q.1, by trivial, q.2⟩
theorem load_rx (s : S1) (i x : Int32) (h : Ic s i) (hx : Lv false s x 8) : ok (M_Mo_load x) s (fun _ s' => ∃ k v, s' = sL (sI s 66 0 k) 67 0 v ∧ Vl false s k v) := by
  have hv := h.1.1.1.1.1
  have hu := h.1.1.used
  have b := (hv.2.2 x hx.1 hx.2.1).1.2.2.2 hx.2.2.1
  have p := (hv.2.2 x hx.1 hx.2.1).2.2.2.2 hx.2.2.1
  refine ok_mono (q_load_ok s x ⟨hx.1, Int32.lt_trans (Int32.lt_of_lt_of_le hx.2.1 hu.2) (by decide)⟩ ⟨b.1, fun c => ⟨(b.2 c).1, Int32.lt_trans (b.2 c).2 (by decide)⟩⟩) fun _ s' es => ⟨_, _, es, ?_⟩
  unfold ldK ldV
  by_cases c : 0 ≤ a_first s x
  · rw [if_pos c, if_pos c]
    exact p.2 c
  · rw [if_neg c, if_neg c]
    exact p.1 (Int32.not_le.mp c)
