/-! The instructions from 27 to 35. -/
theorem Ic.cw {s s1 : S1} {i : Int32} (h : Ic s i) (cw : Cw s s1 (cu s)) : Ic s1 i ∧ Rx s s1 := by
  have hc := h.1.2.2.2.2.1.1
  have rx := Rx.cw h.1.1 cw hc h.1.2.1
  exact ⟨h.rx rx (cw.I 73 (by decide) 0) (cw.I 2050 (by decide) 0), rx⟩
theorem Ic.alive {s : S1} {i : Int32} (h : Ic s i) : 0 ≤ t_place s (cu s) := h.1.2.2.2.2.1.2.2.2.2.2.2.2.2.1 0 h.1.2.2.2.2.1.1.1
theorem Gs.of {s s' : S1} {j : Int32} (h : Gs s (pq s) j) (e1 : pq s' = pq s) (e2 : ∀ p j, wd s' p j = wd s p j) (e3 : ∀ p, a_codes s' p = a_codes s p) : Gs s' (pq s') j := by
  unfold Gs at *
  rw [e1, e2, e3]
  exact h
theorem jump199_ok (s : S1) (i : Int32) (h : Ic s i) (hu : ¬ us (wd s (pq s) i)) (hg : Gs s (pq s) (i + 1 + (iX (wd s (pq s) i) - 131071))) : ok (M_Mo_middle_j199 (cu s) (tp s) (wd s (pq s) i)) s (fun _ s' => Out s') := by
  have n := top_num h.1 h.2.1.1 h.2.1.2.1
  simp only [M_Mo_middle_j199, M_Mo_sbx, ok_B, ok_C, ok_R, ok_L, ok_K, ok_GI, ok_GL, ok_PI, ok_PL, ok_AI, ok_AL, ok_SI, ok_SL, ok_Pr, ok_CI, cmp_lt, cmp_le, cmp_gt, cmp_ge, cmp_eq, nar0, nar1, Sum.elim_inl, Sum.elim_inr, pc_in h]
  exact ⟨n.2.2, n.2.2, h.jump hu hg⟩
theorem middle_ok (s : S1) (i : Int32) (h : Ic s i) (ho : 27 ≤ iO (wd s (pq s) i) ∧ iO (wd s (pq s) i) < 36) : ok (M_Mo_middle (cu s) (tp s) (pq s) (wd s (pq s) i) (iO (wd s (pq s) i)) 19 (cu s) (bs s + iA (wd s (pq s) i))) s (fun _ s' => Out s') := by
  obtain ⟨w0, w1, w3, w4, w5, w6, w7, w8, w10, w11, w12, w13, w29, w30, w31, w34, w35, w36, w37, w38, w39, w40, w41, w42, w43, w44, w45, wl, x2, x17, x18⟩ := Wn.all h
  have n := top_num h.1 h.2.1.1 h.2.1.2.1
  obtain ⟨t1, t2, t3, t4, t5, t6, t7, t8, t9, t10, t11, -⟩ := h.1.top h.2.1.1 h.2.1.2.1
  have a0 := (iA_in (wd s (pq s) i)).1
  have b0 := (iB_in (wd s (pq s) i)).1
  have c0 := (iC_in (wd s (pq s) i))
  have hreg : ∀ r, 0 ≤ r → Rr s (pq s) r → (0 ≤ bs s + r ∧ bs s + r < 4300) ∧ Vl false s (v_stack_k s (cu s) (bs s + r)) (v_stack_v s (cu s) (bs s + r)) := fun r p q => ⟨⟨(t11 r p q).1.1, Int32.lt_trans (t11 r p q).1.2 (by decide)⟩, (t11 r p q).2⟩
  have tr : ∀ k, ok (M_Mo_truth k) s (fun r s' => s' = s ∧ (r = 0 ∨ r = 1)) := fun k => by
    simp only [M_Mo_truth, ok_B, ok_C, ok_R, ok_L, ok_K, ok_GI, ok_GL, ok_PI, ok_PL, ok_AI, ok_AL, ok_SI, ok_SL, ok_Pr, ok_CI, cmp_lt, cmp_le, cmp_gt, cmp_ge, cmp_eq, nar0, nar1, Sum.elim_inl, Sum.elim_inr]
    exact ⟨fun _ => ⟨by trivial, Or.inl (by trivial)⟩, fun _ => ⟨by trivial, Or.inr (by trivial)⟩⟩
  have skip : (31 ≤ iO (wd s (pq s) i) ∧ iO (wd s (pq s) i) ≤ 35) → Gs s (pq s) (i + 2) := (h.1.wf h.2.1).2.2.2.1
  simp only [M_Mo_middle, M_Mo_b, M_Mo_a, M_Mo_c, ok_B, ok_C, ok_R, ok_L, ok_K, ok_GI, ok_GL, ok_PI, ok_PL, ok_AI, ok_AL, ok_SI, ok_SL, ok_Pr, ok_CI, cmp_lt, cmp_le, cmp_gt, cmp_ge, cmp_eq, nar0, nar1, Sum.elim_inl, Sum.elim_inr]
  refine ⟨n.2.2, fun c => ?_, fun c27 => ⟨fun c => ?_, fun c28 => ⟨fun c => ?_, fun c29 => ⟨fun c => ?_, fun c30 => ⟨fun c => ?_, fun c34 => ⟨fun c => ?_, fun c35 => ?_⟩⟩⟩⟩⟩⟩
  · have hp : Pl s i := Pl.op (by rw [c]; decide)
    obtain ⟨q1, q2⟩ := w0 (Or.inr (Or.inr (Or.inr (Or.inl c))))
    have go : ∀ k, 0 ≤ k ∧ k < 4 → ok (M_Mo_middle_j91 k (bs s + iA (wd s (pq s) i)) 19 (cu s)) s (fun _ s' => Out s') := fun k hk => by
      simp only [M_Mo_middle_j91, ok_B, ok_C, ok_R, ok_L, ok_K, ok_GI, ok_GL, ok_PI, ok_PL, ok_AI, ok_AL, ok_SI, ok_SL, ok_Pr, ok_CI, cmp_lt, cmp_le, cmp_gt, cmp_ge, cmp_eq, nar0, nar1, Sum.elim_inl, Sum.elim_inr]
      exact h.setDone ⟨a0, q1⟩ (Or.inl hk) hp
    refine ⟨(hreg _ b0 q2).1, ok_mono (tr _) fun r s1 ⟨es, _⟩ => ?_⟩
    subst es
    exact ⟨fun _ => go 2 ⟨by decide, by decide⟩, fun _ => go 1 ⟨by decide, by decide⟩⟩
  · have hp : Pl s i := Pl.op (by rw [c]; decide)
    obtain ⟨q1, q2⟩ := w0 (Or.inr (Or.inr (Or.inr (Or.inr c))))
    obtain ⟨r1, r2⟩ := hreg _ b0 q2
    exact ⟨r1, r1, length_ok s i _ _ h r2 hp q1⟩
  · obtain ⟨q1, q2, q3⟩ := w29 c
    obtain ⟨r1, r2⟩ := hreg _ c0.1 q3
    refine ⟨n.2.2, r1, n.2.2, r1, ok_mono (join_ok s i _ _ _ h c r2 ?_) fun _ s1 w => w.1⟩
    show -1 ≤ iC (wd s (pq s) i) - 1 ∧ iC (wd s (pq s) i) - 1 < iC (wd s (pq s) i)
    generalize iC (wd s (pq s) i) = x at *
    clear w0 w1 w3 w4 w5 w6 w7 w8 w10 w11 w12 w13 w29 w30 w31 w34 w35 w36 w37 w38 w39 w40 w41 w42 w43 w44 w45 t11 t7 hreg h r2 tr skip t4 t5 t6 t8 t9 t10
    exact ⟨by grind, by grind⟩
  · have hu : ¬ us (wd s (pq s) i) := by
      rintro ⟨z | z | z | z, -⟩ <;> rw [c] at z <;> exact absurd z (by decide)
    obtain ⟨q1, q2⟩ := w30 c
    refine ⟨fun _ => jump199_ok s i h hu q2, fun d => ok_mono (q_close_ok s (cu s) _ h.1.1 n.1 h.alive) fun _ s1 cw => ?_⟩
    obtain ⟨i1, rx⟩ := h.cw cw
    obtain ⟨d1, d2, d3, d4⟩ := rx.same h.1 h.2.1.1 h.2.1.2.1
    have w := jump199_ok s1 i i1 (by rw [d3, rx.wd]; exact hu) (by
      rw [d3, rx.wd]
      have := q2.of d3 rx.wd (fun p => rx.2.2.2.A 50 (by decide) 0 p)
      rw [d3] at this
      exact this)
    rw [d1, d2, d3, rx.wd] at w
    exact w
  · have hp : Pl s i := Pl.op (by rw [c]; decide)
    obtain ⟨q1, q2⟩ := w34 c
    have sk := h.jump hp.2.1 (skip (by rw [c]; decide))
    have go : ∀ k r, ok (M_Mo_middle_j240 (cu s) (tp s) k r) s (fun _ s' => Out s') := fun k r => by
      simp only [M_Mo_middle_j240, ok_B, ok_C, ok_R, ok_L, ok_K, ok_GI, ok_GL, ok_PI, ok_PL, ok_AI, ok_AL, ok_SI, ok_SL, ok_Pr, ok_CI, cmp_lt, cmp_le, cmp_gt, cmp_ge, cmp_eq, nar0, nar1, Sum.elim_inl, Sum.elim_inr, pc_in h, add2]
      exact ⟨fun _ => ⟨n.2.2, n.2.2, sk⟩, fun _ => h.done hp.1 hp.2.1 hp.2.2⟩
    refine ⟨(hreg _ a0 q1).1, ok_mono (tr _) fun r s1 ⟨es, _⟩ => ?_⟩
    subst es
    exact ⟨fun _ => go _ _, fun _ => go _ _⟩
  · have hp : Pl s i := Pl.op (by rw [c]; decide)
    obtain ⟨q1, q2, q3⟩ := w35 c
    obtain ⟨r1, r2⟩ := hreg _ b0 q2
    have sk := h.jump hp.2.1 (skip (by rw [c]; decide))
    have go : ∀ k r, ok (M_Mo_middle_j281 (cu s) (tp s) 19 (cu s) (bs s + iA (wd s (pq s) i)) (bs s + iB (wd s (pq s) i)) k r) s (fun _ s' => Out s') := fun k r => by
      simp only [M_Mo_middle_j281, ok_B, ok_C, ok_R, ok_L, ok_K, ok_GI, ok_GL, ok_PI, ok_PL, ok_AI, ok_AL, ok_SI, ok_SL, ok_Pr, ok_CI, cmp_lt, cmp_le, cmp_gt, cmp_ge, cmp_eq, nar0, nar1, Sum.elim_inl, Sum.elim_inr, pc_in h, add2]
      refine ⟨fun _ => ok_mono (h.setFrom 19 ⟨a0, q1⟩ ⟨r1.1, r1.2, r1.2⟩ r2) fun _ s2 ⟨i2, _, e2, e3, _⟩ => ?_, fun _ => ⟨n.2.2, n.2.2, sk⟩⟩
      have p2 := hp.of e3 e2
      exact i2.done p2.1 p2.2.1 p2.2.2
    refine ⟨r1, ok_mono (tr _) fun r s1 ⟨es, _⟩ => ?_⟩
    subst es
    exact ⟨fun _ => go _ _, fun _ => go _ _⟩
  · have oo : ∀ o : Int32, 27 ≤ o ∧ o < 36 → ¬ o = 27 → ¬ o = 28 → ¬ o = 29 → ¬ o = 30 → ¬ o = 34 → ¬ o = 35 → o = 31 ∨ o = 32 ∨ o = 33 := by
      clear w0 w1 w3 w4 w5 w6 w7 w8 w10 w11 w12 w13 w29 w30 w31 w34 w35 w36 w37 w38 w39 w40 w41 w42 w43 w44 w45 t11 t7 hreg h tr skip t4 t5 t6 t8 t9 t10 a0 b0 c0 wl x2 x17 x18 n t1 t2 t3 ho c27 c28 c29 c30 c34 c35
      intro o a b c d e f g
      grind
    exact compare_ok s i h (oo _ ho c27 c28 c29 c30 c34 c35)
