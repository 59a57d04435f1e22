/-! The first twelve instructions. -/
theorem Ic.setFrom {s : S1} {i r u j : Int32} (r2 : Nat) (h : Ic s i) (hr : 0 ≤ r ∧ r < a_registers s (pq s)) (hj : 0 ≤ j ∧ j < lnI (r2 + 1) ∧ j < lnI (r2 + 2)) (hv : Vl false s (gA s (r2 + 1) u j) (gB s (r2 + 2) u j)) : ok (M_Va_set_ 19 (cu s) (bs s + r) r2 u j) s (fun _ s' => Ic s' i ∧ Ss s s' ∧ (∀ p j, wd s' p j = wd s p j) ∧ pq s' = pq s ∧ cu s' = cu s ∧ tp s' = tp s ∧ bs s' = bs s) := by
  have w := h.set hr hv
  simp only [M_Va_set, ok_B, ok_C, ok_R, ok_L, ok_K, ok_GI, ok_GL, ok_PI, ok_PL, ok_AI, ok_AL, ok_SI, ok_SL, ok_Pr, ok_CI, cmp_lt, cmp_le, cmp_gt, cmp_ge, cmp_eq, nar0, nar1, Sum.elim_inl, Sum.elim_inr, i8_id hv.kind] at w
  simp only [M_Va_set_, ok_B, ok_C, ok_R, ok_L, ok_K, ok_GI, ok_GL, ok_PI, ok_PL, ok_AI, ok_AL, ok_SI, ok_SL, ok_Pr, ok_CI, cmp_lt, cmp_le, cmp_gt, cmp_ge, cmp_eq, nar0, nar1, Sum.elim_inl, Sum.elim_inr, i8_id hv.kind]
  have e : gB (sA s 20 (cu s) (bs s + r) (gA s (r2 + 1) u j)) (r2 + 2) u j = gB s (r2 + 2) u j := rfl
  rw [e]
  exact ⟨⟨hj.1, hj.2.1⟩, w.1, ⟨hj.1, hj.2.2⟩, w.2⟩
theorem Mdx.ic {s s' : S1} {i k v : Int32} {E : S1 → S1 → Int32 → Prop} (hd : Mdx s k E v s') (h : Ic s i) (hp : Pl s i) : (v = -1 ∧ Out s') ∨ (0 ≤ v ∧ Ic s' i ∧ Lv false s' v k ∧ Rx s s') := by
  have nx := Nx.mdx h.1.1 hd
  have rx := nx.rx h.1.2.1
  have r2 := h.1.rx rx
  rcases hd.2 with ⟨e, w, wl⟩ | ⟨s0, w0, w1, w2, w3, w4, w5⟩
  · refine Or.inl ⟨e, ?_⟩
    have h2 : v_hand_n s' = 0 := (w.I 2050 (by decide) 0).trans h.2.2.2
    rcases nx.2.2.2.2.2 with q | q
    · have ic2 := h.rx rx q (w.I 2050 (by decide) 0)
      obtain ⟨d1, d2, d3, d4⟩ := rx.same h.1 h.2.1.1 h.2.1.2.1
      have p2 := hp.of d3 (fun p j => by
        show gA s' 55 0 (gA s' 49 0 p + j) = gA s 55 0 (gA s 49 0 p + j)
        rw [rx.2.2.2.A 49 (by decide), rx.2.2.2.A 55 (by decide)])
      exact ic2.done p2.1 p2.2.1 p2.2.2
    · exact ⟨r2.1, r2.2.1, h2, Or.inr (Or.inl ⟨q, r2.2.2⟩)⟩
  · refine Or.inr ⟨w3.1.1, h.rx rx ?_ ?_, w5, rx⟩
    · exact (w3.I 73 (by decide) 0).trans (w1.I 73 (by decide) 0)
    · exact (w3.I 2050 (by decide) 0).trans (w1.I 2050 (by decide) 0)
theorem Rx.wd {s s' : S1} (rx : Rx s s') (p j : Int32) : wd s' p j = wd s p j := by
  show gA s' 55 0 (gA s' 49 0 p + j) = gA s 55 0 (gA s 49 0 p + j)
  rw [rx.2.2.2.A 49 (by decide), rx.2.2.2.A 55 (by decide)]
theorem Rx.reg {s s' : S1} (rx : Rx s s') (p : Int32) : a_registers s' p = a_registers s p := rx.2.2.2.A 44 (by decide) 0 p
theorem Ss.hy {s s' : S1} (h : Ss s s') : Hy s s' := by
  refine ⟨fun f i _ => h.1 f i, fun a i j q => h.A a ?_ i j, fun i j => h.B 3 (by decide) i j⟩
  rintro e
  subst e
  exact absurd q (by decide)
theorem q_Sv.hy {s s' : S1} (h : q_Sv s s') : Hy s s' := by
  refine ⟨fun f i _ => h.1 f i, fun a i j q => h.A a ?_ i j, fun i j => h.B 3 (by decide) i j⟩
  rintro e
  subst e
  exact absurd q (by decide)
theorem reg_add {b a k r : Int32} (hb : 0 ≤ b ∧ b ≤ 4000) (ha : 0 ≤ a ∧ a ≤ 300) (hk : 0 ≤ k ∧ k ≤ 600) (hr : a + k < r) (hr2 : r < 251) : 0 ≤ a + k ∧ b + a + k = b + (a + k) := by
  refine ⟨?_, Int32.add_assoc b a k⟩
  grind
theorem op_small (o : Int32) (h : o < 12) : o ≠ 30 ∧ o ≠ 36 ∧ o ≠ 37 ∧ o ≠ 38 ∧ o ≠ 43 ∧ o ≠ 45 := by
  refine ⟨?_, ?_, ?_, ?_, ?_, ?_⟩ <;> grind
theorem op_small2 (o : Int32) (h0 : 0 ≤ o) (h : o < 12) (c0 : ¬ o = 0) (c1 : ¬ o = 1) (c2 : o ≠ 2) (c3 : ¬ o = 3) (c4 : ¬ o = 4) (c5 : ¬ o = 5) (c6 : ¬ o = 6) (c7 : ¬ o = 7) (c8 : ¬ (o = 8 ∨ o = 10)) (c9 : ¬ o = 9) : o = 11 := by grind
theorem nil_num {a b k r : Int32} (ha : 0 ≤ a ∧ a ≤ 255) (hb : 0 ≤ b ∧ b ≤ 511) (hq : a + b < r) (hr : r < 251) (k1 : 0 ≤ k) (d : ¬ b < k) : (0 ≤ k ∧ k ≤ 600) ∧ a + k < r ∧ (0 ≤ k + 1 ∧ k + 1 ≤ b + 1) ∧ (b + 1 - (k + 1)).toNatClampNeg < (b + 1 - k).toNatClampNeg := by
  have c0 : (0 : Int32).toInt = 0 := rfl
  have c1 : (1 : Int32).toInt = 1 := rfl
  have c2 : (255 : Int32).toInt = 255 := rfl
  have c5 : (511 : Int32).toInt = 511 := rfl
  have c6 : (600 : Int32).toInt = 600 := rfl
  have cr : (251 : Int32).toInt = 251 := rfl
  simp only [i32_le, i32_lt, c0, c2, c5, cr] at ha hb hq hr k1 d
  have y1 := tI_add (a := a) (b := b) (by omega)
  have y2 := tI_add (a := a) (b := k) (by omega)
  have y3 := tI_add (a := k) (b := 1) (by omega)
  have y4 := tI_add (a := b) (b := 1) (by omega)
  have y5 := tI_sub (a := b + 1) (b := k + 1) (by omega)
  have y6 := tI_sub (a := b + 1) (b := k) (by omega)
  unfold Int32.toNatClampNeg
  simp only [i32_le, i32_lt, c0, c6]
  omega
theorem b1_nn {b : Int32} (h : 0 ≤ b ∧ b ≤ 511) : 0 ≤ b + 1 := by grind
theorem small_ok (s : S1) (i : Int32) (h : Ic s i) (ho : iO (wd s (pq s) i) < 12) : ok (M_Mo_small (cu s) (tp s) (pq s) (wd s (pq s) i) (iO (wd s (pq s) i)) 19 (cu s) (bs s + iA (wd s (pq s) i))) s (fun _ s' => Out s') := by
  obtain ⟨w0, w1, w3, w4, w5, w6, w7, w8, w10, w11, w12, w13, w29, w30, w31, w34, w35, w36, w37, w38, w39, w40, w41, w42, w43, w44, w45, wl, x2, x17, x18⟩ := Wn.all h
  have n := top_num h.1 h.2.1.1 h.2.1.2.1
  obtain ⟨t1, t2, t3, t4, t5, t6, t7, t8, t9, t10, t11, -⟩ := h.1.top h.2.1.1 h.2.1.2.1
  have hp : Pl s i := Pl.op (op_small _ ho)
  have a0 := (iA_in (wd s (pq s) i)).1
  have b0 := (iB_in (wd s (pq s) i)).1
  have c0 := (iC_in (wd s (pq s) i)).1
  have hreg : ∀ r, 0 ≤ r → Rr s (pq s) r → (0 ≤ bs s + r ∧ bs s + r < 4300) ∧ Vl false s (v_stack_k s (cu s) (bs s + r)) (v_stack_v s (cu s) (bs s + r)) := fun r p q => ⟨⟨(t11 r p q).1.1, Int32.lt_trans (t11 r p q).1.2 (by decide)⟩, (t11 r p q).2⟩
  have fin : ∀ s2, (Ic s2 i ∧ Ss s s2 ∧ (∀ p j, wd s2 p j = wd s p j) ∧ pq s2 = pq s ∧ cu s2 = cu s ∧ tp s2 = tp s ∧ bs s2 = bs s) → Out s2 := fun s2 ⟨i2, _, e2, e3, _⟩ => by
    have p2 := hp.of e3 e2
    exact i2.done p2.1 p2.2.1 p2.2.2
  simp only [M_Mo_small, M_Mo_b, M_Mo_a, M_Mo_c, M_Mo_bx, ok_B, ok_C, ok_R, ok_L, ok_K, ok_GI, ok_GL, ok_PI, ok_PL, ok_AI, ok_AL, ok_SI, ok_SL, ok_Pr, ok_CI, cmp_lt, cmp_le, cmp_gt, cmp_ge, cmp_eq, nar0, nar1, Sum.elim_inl, Sum.elim_inr]
  refine ⟨n.2.2, fun c => ?_, fun c => ⟨fun c => ?_, fun c => ⟨fun c => ?_, fun c => ⟨fun c => ?_, fun c => ⟨fun c => ?_, fun c => ⟨fun c => ?_, fun c => ⟨fun c => ?_, fun c => ⟨fun c => ?_, fun c => ⟨fun c => ?_, fun c => ?_⟩⟩⟩⟩⟩⟩⟩⟩⟩
  · -- a register into a register
    obtain ⟨q1, q2⟩ := w0 (Or.inl c)
    obtain ⟨r1, r2⟩ := hreg _ b0 q2
    exact ok_mono (h.setFrom 19 ⟨a0, q1⟩ ⟨r1.1, r1.2, r1.2⟩ r2) fun _ s2 w => fin s2 w
  · obtain ⟨q1, q2⟩ := w1 c
    refine ok_mono (constant_ok s (pq s) _ h.1 t6 ⟨(iX_in _).1, q2⟩) fun _ s1 ⟨k, v, es, hv⟩ => ?_
    have r1 : Rf s s1 := ⟨k, v, es⟩
    have i1 := r1.ic h
    obtain ⟨c1, c2, c3, c4, c5, c6, c7, c8⟩ := r1.same
    have g98 : gI s1 98 0 = k ∧ gL s1 99 0 = v := by
      rw [es]
      simp only [gI_sI, gI_sL, gI_sA, gI_sB, gI_sAf, gI_sBf, gL_sI, gL_sL, gL_sA, gL_sB, gL_sAf, gL_sBf, gA_sI, gA_sL, gA_sA, gA_sB, gA_sAf, gA_sBf, gB_sI, gB_sL, gB_sA, gB_sB, gB_sAf, gB_sBf, Nat.reduceEqDiff, Nat.reduceMul, Nat.reduceAdd, false_and, true_and, and_true, and_false, if_true, if_false]
    rw [g98.1, g98.2]
    have w := i1.setDone (r := iA (wd s (pq s) i)) (k := k) (v := v) (by rw [c3, c6]; exact ⟨a0, q1⟩) ((Vl.hs r1.hs).mpr hv) (hp.of c3 c5)
    rw [c1, c4] at w
    exact w
  · obtain ⟨q1, q2⟩ := w3 c
    have go : ∀ k, 0 ≤ k ∧ k < 4 → ok (M_Mo_small_j133 (cu s) (tp s) (wd s (pq s) i) k (bs s + iA (wd s (pq s) i)) 19 (cu s)) s (fun _ s' => Out s') := fun k hk => by
      simp only [M_Mo_small_j133, M_Mo_c, ok_B, ok_C, ok_R, ok_L, ok_K, ok_GI, ok_GL, ok_PI, ok_PL, ok_AI, ok_AL, ok_SI, ok_SL, ok_Pr, ok_CI, cmp_lt, cmp_le, cmp_gt, cmp_ge, cmp_eq, nar0, nar1, Sum.elim_inl, Sum.elim_inr]
      refine ok_mono (h.set ⟨a0, q1⟩ (Or.inl hk)) fun _ s2 w => ⟨fun _ => fin s2 w, fun d => ?_⟩
      obtain ⟨i2, ss, e2, e3, e4, e5, e6⟩ := w
      have g2 : Gs s2 (pq s2) (i + 2) := by
        have g := q2 d
        unfold Gs at *
        rw [e3, e2]
        show _ ∧ _ < gA s2 50 0 _ ∧ _
        rw [ss.A 50 (by decide)]
        exact g
      have j := i2.jump (hp.of e3 e2).2.1 g2
      have pc : gA s2 32 (cu s) (tp s) = i + 1 := by
        have := pc_in i2
        rw [e4, e5] at this
        exact this
      rw [e4, e5] at j
      rw [pc, add2]
      exact ⟨n.2.2, n.2.2, j⟩
    exact ⟨fun _ => go 1 ⟨by decide, by decide⟩, fun _ => go 2 ⟨by decide, by decide⟩⟩
  · have q := w4 c
    have hrg := t7.2.1.2
    refine ok_W (fun x s' => (x.1 = wd s (pq s) i ∧ x.2.1 = 19 ∧ x.2.2.1 = cu s ∧ x.2.2.2.1 = bs s + iA (wd s (pq s) i)) ∧ (0 ≤ x.2.2.2.2 ∧ x.2.2.2.2 ≤ iB (wd s (pq s) i) + 1) ∧ Ic s' i ∧ Rx s s') (fun x _ => (iB (wd s (pq s) i) + 1 - x.2.2.2.2).toNatClampNeg) ?_ _ _ ⟨⟨rfl, rfl, rfl, rfl⟩, ⟨(show (0 : Int32) ≤ 0 by decide), ?_⟩, h, Rx.refl h.1.1 h.1.2.1⟩
    · rintro ⟨y1, y2, y3, y4, k⟩ s1 ⟨⟨e1, e2, e3, e4⟩, ⟨k1, k2⟩, i1, rx⟩
      dsimp only at e1 e2 e3 e4 k1 k2
      subst e1 e2 e3 e4
      obtain ⟨d1, d2, d3, d4⟩ := rx.same h.1 h.2.1.1 h.2.1.2.1
      simp only [M_Mo_small_L161, M_Mo_b, ok_B, ok_C, ok_R, ok_L, ok_K, ok_GI, ok_GL, ok_PI, ok_PL, ok_AI, ok_AL, ok_SI, ok_SL, ok_Pr, ok_CI, cmp_lt, cmp_le, cmp_gt, cmp_ge, cmp_eq, nar0, nar1, Sum.elim_inl, Sum.elim_inr]
      have bb := iB_in (wd s (pq s) i)
      have aa := iA_in (wd s (pq s) i)
      refine ⟨fun d => ?_, fun d => ?_⟩
      · have p2 := hp.of d3 rx.wd
        exact i1.done p2.1 p2.2.1 p2.2.2
      · have nn := nil_num aa bb q hrg k1 d
        have ra := reg_add (b := bs s) (a := iA (wd s (pq s) i)) (k := k) ⟨t9.1, t9.2.1⟩ ⟨aa.1, Int32.le_trans aa.2 (by decide)⟩ nn.1 nn.2.1 hrg
        have w := i1.set (r := iA (wd s (pq s) i) + k) (k := 0) (v := 0) (by rw [d3, rx.reg]; exact ⟨ra.1, nn.2.1⟩) (Or.inl ⟨by decide, by decide⟩)
        rw [d1, d4] at w
        rw [ra.2]
        refine ok_mono w fun _ s2 ⟨i2, ss, _⟩ => ⟨⟨⟨by trivial, by trivial, by trivial, by trivial⟩, nn.2.2.1, i2, rx.trans (Rx.hy i2.1.1 ss.hy i1.1.2.1)⟩, nn.2.2.2⟩
    · exact b1_nn (iB_in (wd s (pq s) i))
  · obtain ⟨q1, q2⟩ := w5 (Or.inl c)
    refine ok_mono (up_ok s i _ h ⟨b0, q2⟩) fun x s1 ⟨es, hx⟩ => ?_
    subst es
    refine ok_mono (load_rx s1 i x h hx) fun _ s2 ⟨k, v, es, hv⟩ => ?_
    have g1 : Gf s1 s2 := Or.inr ⟨k, v, es⟩
    have r66 : gI s2 66 0 = k ∧ gL s2 67 0 = v := by
      rw [es]
      simp only [gI_sI, gI_sL, gI_sA, gI_sB, gI_sAf, gI_sBf, gL_sI, gL_sL, gL_sA, gL_sB, gL_sAf, gL_sBf, gA_sI, gA_sL, gA_sA, gA_sB, gA_sAf, gA_sBf, gB_sI, gB_sL, gB_sA, gB_sB, gB_sAf, gB_sBf, Nat.reduceEqDiff, Nat.reduceMul, Nat.reduceAdd, false_and, true_and, and_true, and_false, if_true, if_false]
    rw [r66.1, r66.2]
    obtain ⟨c1, c2, c3, c4, c5, c6⟩ := g1.same
    have w := (g1.ic h).setDone (r := iA (wd s1 (pq s1) i)) (k := k) (v := v) (by rw [c3, c6]; exact ⟨a0, q1⟩) ((Vl.hs g1.hs).mpr hv) (hp.of c3 c5)
    rw [c1, c4] at w
    exact w
  · obtain ⟨q1, q2, q3⟩ := w6 c
    refine ok_mono (rk_ok s i _ h c0 q3) fun _ s1 ⟨k, v, es, hv⟩ => ?_
    have r1 : Rf s s1 := ⟨k, v, es⟩
    have i1 := r1.ic h
    obtain ⟨c1, c2, c3, c4, c5, c6, c7, c8⟩ := r1.same
    have g98 : gI s1 98 0 = k ∧ gL s1 99 0 = v := by
      rw [es]
      simp only [gI_sI, gI_sL, gI_sA, gI_sB, gI_sAf, gI_sBf, gL_sI, gL_sL, gL_sA, gL_sB, gL_sAf, gL_sBf, gA_sI, gA_sL, gA_sA, gA_sB, gA_sAf, gA_sBf, gB_sI, gB_sL, gB_sA, gB_sB, gB_sAf, gB_sBf, Nat.reduceEqDiff, Nat.reduceMul, Nat.reduceAdd, false_and, true_and, and_true, and_false, if_true, if_false]
    have u := up_ok s1 i (iB (wd s (pq s) i)) i1 ⟨b0, by rw [c3]; show _ < gA s1 45 0 _; rw [c7]; exact q2⟩
    rw [c1, c2] at u
    refine ok_mono u fun x s2 ⟨es2, hx⟩ => ?_
    subst es2
    refine ok_mono (load_rx s2 i x i1 hx) fun _ s3 ⟨k3, v3, es3, hv3⟩ => ?_
    have g1 : Gf s2 s3 := Or.inr ⟨k3, v3, es3⟩
    have r66 : gI s3 66 0 = k3 ∧ gL s3 67 0 = v3 := by
      rw [es3]
      simp only [gI_sI, gI_sL, gI_sA, gI_sB, gI_sAf, gI_sBf, gL_sI, gL_sL, gL_sA, gL_sB, gL_sAf, gL_sBf, gA_sI, gA_sL, gA_sA, gA_sB, gA_sAf, gA_sBf, gB_sI, gB_sL, gB_sA, gB_sB, gB_sAf, gB_sBf, Nat.reduceEqDiff, Nat.reduceMul, Nat.reduceAdd, false_and, true_and, and_true, and_false, if_true, if_false]
    have r98 : gI s3 98 0 = k ∧ gL s3 99 0 = v := by
      rw [es3]
      simp only [gI_sI, gI_sL, gI_sA, gI_sB, gI_sAf, gI_sBf, gL_sI, gL_sL, gL_sA, gL_sB, gL_sAf, gL_sBf, gA_sI, gA_sL, gA_sA, gA_sB, gA_sAf, gA_sBf, gB_sI, gB_sL, gB_sA, gB_sB, gB_sAf, gB_sBf, Nat.reduceEqDiff, Nat.reduceMul, Nat.reduceAdd, false_and, true_and, and_true, and_false, if_true, if_false]
      exact g98
    rw [r66.1, r66.2, r98.1, r98.2]
    obtain ⟨d1, d2, d3, d4, d5, d6⟩ := g1.same
    have p3 := (hp.of c3 c5).of d3 d5
    exact index_ok s3 i k3 k _ v3 v (g1.ic i1) ((Vl.hs g1.hs).mpr hv3) ((Vl.hs g1.hs).mpr ((Vl.hs r1.hs).mpr hv)) ⟨a0, by rw [d3, d6, c3, c6]; exact q1⟩ p3.1 p3.2.1 p3.2.2
  · obtain ⟨q1, q2, q3⟩ := w7 c
    refine ok_mono (rk_ok s i _ h c0 q3) fun _ s1 ⟨k, v, es, hv⟩ => ?_
    have r1 : Rf s s1 := ⟨k, v, es⟩
    have i1 := r1.ic h
    obtain ⟨c1, c2, c3, c4, c5, c6, c7, c8⟩ := r1.same
    have g98 : gI s1 98 0 = k ∧ gL s1 99 0 = v := by
      rw [es]
      simp only [gI_sI, gI_sL, gI_sA, gI_sB, gI_sAf, gI_sBf, gL_sI, gL_sL, gL_sA, gL_sB, gL_sAf, gL_sBf, gA_sI, gA_sL, gA_sA, gA_sB, gA_sAf, gA_sBf, gB_sI, gB_sL, gB_sA, gB_sB, gB_sAf, gB_sBf, Nat.reduceEqDiff, Nat.reduceMul, Nat.reduceAdd, false_and, true_and, and_true, and_false, if_true, if_false]
    obtain ⟨u1, u2⟩ := hreg _ b0 q2
    rw [g98.1, g98.2]
    have p1 := hp.of c3 c5
    have e1 : gA s1 20 (cu s) (bs s + iB (wd s (pq s) i)) = gA s 20 (cu s) (bs s + iB (wd s (pq s) i)) := c7 _ _ _
    have e2 : gB s1 21 (cu s) (bs s + iB (wd s (pq s) i)) = gB s 21 (cu s) (bs s + iB (wd s (pq s) i)) := c8 _ _ _
    refine ⟨u1, u1, ?_⟩
    show ok (M_Mo_index (gA s1 20 (cu s) (bs s + iB (wd s (pq s) i))) (gB s1 21 (cu s) (bs s + iB (wd s (pq s) i))) k v (iA (wd s (pq s) i))) s1 _
    rw [e1, e2]
    exact index_ok s1 i _ k _ _ v i1 ((Vl.hs r1.hs).mpr u2) ((Vl.hs r1.hs).mpr hv) ⟨a0, by rw [c3, c6]; exact q1⟩ p1.1 p1.2.1 p1.2.2
  · have qq : Rq s (pq s) (iB (wd s (pq s) i)) ∧ Rq s (pq s) (iC (wd s (pq s) i)) := by
      rcases c with c | c
      · exact (w8 c).2
      · exact (w10 c).2
    refine ok_mono (rk_ok s i _ h b0 qq.1) fun _ s1 ⟨k1, v1, es1, hv1⟩ => ?_
    have r1 : Rf s s1 := ⟨k1, v1, es1⟩
    have i1 := r1.ic h
    obtain ⟨c1, c2, c3, c4, c5, c6, c7, c8⟩ := r1.same
    have g98 : gI s1 98 0 = k1 ∧ gL s1 99 0 = v1 := by
      rw [es1]
      simp only [gI_sI, gI_sL, gI_sA, gI_sB, gI_sAf, gI_sBf, gL_sI, gL_sL, gL_sA, gL_sB, gL_sAf, gL_sBf, gA_sI, gA_sL, gA_sA, gA_sB, gA_sAf, gA_sBf, gB_sI, gB_sL, gB_sA, gB_sB, gB_sAf, gB_sBf, Nat.reduceEqDiff, Nat.reduceMul, Nat.reduceAdd, false_and, true_and, and_true, and_false, if_true, if_false]
    rw [g98.1, g98.2]
    have hy' : Rq s1 (pq s1) (iC (wd s (pq s) i)) := by
      have := qq.2
      unfold Rq at *
      rw [c3]
      simp only [a_registers, a_consts, c7] at *
      exact this
    have w := rk_ok s1 i _ i1 c0 hy'
    rw [c1, c2, c3] at w
    refine ok_mono w fun _ s2 ⟨k2, v2, es2, hv2⟩ => ?_
    have r2 : Rf s1 s2 := ⟨k2, v2, es2⟩
    have i2 := r2.ic i1
    obtain ⟨e1, e2, e3, e4, e5, e6, e7, e8⟩ := r2.same
    have g99 : gI s2 98 0 = k2 ∧ gL s2 99 0 = v2 := by
      rw [es2]
      simp only [gI_sI, gI_sL, gI_sA, gI_sB, gI_sAf, gI_sBf, gL_sI, gL_sL, gL_sA, gL_sB, gL_sAf, gL_sBf, gA_sI, gA_sL, gA_sA, gA_sB, gA_sAf, gA_sBf, gB_sI, gB_sL, gB_sA, gB_sB, gB_sAf, gB_sBf, Nat.reduceEqDiff, Nat.reduceMul, Nat.reduceAdd, false_and, true_and, and_true, and_false, if_true, if_false]
    have p2 := (hp.of c3 c5).of e3 e5
    have u1 : Vl false s2 k1 v1 := (Vl.hs r2.hs).mpr ((Vl.hs r1.hs).mpr hv1)
    have u2 : Vl false s2 k2 v2 := (Vl.hs r2.hs).mpr hv2
    refine ⟨fun d => ?_, fun d => ?_⟩
    · have u := up_ok s2 i (iA (wd s (pq s) i)) i2 ⟨a0, by rw [e3, c3]; show _ < gA s2 45 0 _; rw [e7, c7]; exact (w8 d).1⟩
      rw [e1, e2, c1, c2] at u
      refine ok_mono u fun x s3 ⟨es3, hx⟩ => ?_
      subst es3
      refine ok_mono (load_rx s3 i x i2 hx) fun _ s4 ⟨k3, v3, es3, hv3⟩ => ?_
      have g1 : Gf s3 s4 := Or.inr ⟨k3, v3, es3⟩
      have r66 : gI s4 66 0 = k3 ∧ gL s4 67 0 = v3 := by
        rw [es3]
        simp only [gI_sI, gI_sL, gI_sA, gI_sB, gI_sAf, gI_sBf, gL_sI, gL_sL, gL_sA, gL_sB, gL_sAf, gL_sBf, gA_sI, gA_sL, gA_sA, gA_sB, gA_sAf, gA_sBf, gB_sI, gB_sL, gB_sA, gB_sB, gB_sAf, gB_sBf, Nat.reduceEqDiff, Nat.reduceMul, Nat.reduceAdd, false_and, true_and, and_true, and_false, if_true, if_false]
      have r98 : gI s4 98 0 = k2 ∧ gL s4 99 0 = v2 := by
        rw [es3]
        simp only [gI_sI, gI_sL, gI_sA, gI_sB, gI_sAf, gI_sBf, gL_sI, gL_sL, gL_sA, gL_sB, gL_sAf, gL_sBf, gA_sI, gA_sL, gA_sA, gA_sB, gA_sAf, gA_sBf, gB_sI, gB_sL, gB_sA, gB_sB, gB_sAf, gB_sBf, Nat.reduceEqDiff, Nat.reduceMul, Nat.reduceAdd, false_and, true_and, and_true, and_false, if_true, if_false]
        exact g99
      rw [r66.1, r66.2, r98.1, r98.2]
      obtain ⟨d1, d2, d3, d4, d5, d6⟩ := g1.same
      exact q_write_ok s4 i k3 k1 k2 v3 v1 v2 (g1.ic i2) ((Vl.hs g1.hs).mpr hv3) ((Vl.hs g1.hs).mpr u1) ((Vl.hs g1.hs).mpr u2) (p2.of d3 d5)
    · have c10 : iO (wd s (pq s) i) = 10 := by
        rcases c with c | c
        · exact absurd c d
        · exact c
      obtain ⟨x1, x2⟩ := hreg _ a0 (w10 c10).1
      refine ⟨x1, x1, ?_⟩
      rw [g99.1, g99.2]
      have y1 : gA s2 20 (cu s) (bs s + iA (wd s (pq s) i)) = gA s 20 (cu s) (bs s + iA (wd s (pq s) i)) := (e7 _ _ _).trans (c7 _ _ _)
      have y2 : gB s2 21 (cu s) (bs s + iA (wd s (pq s) i)) = gB s 21 (cu s) (bs s + iA (wd s (pq s) i)) := (e8 _ _ _).trans (c8 _ _ _)
      show ok (M_Mo_write (gA s2 20 (cu s) (bs s + iA (wd s (pq s) i))) (gB s2 21 (cu s) (bs s + iA (wd s (pq s) i))) k1 v1 k2 v2) s2 _
      rw [y1, y2]
      exact q_write_ok s2 i _ k1 k2 _ v1 v2 i2 ((Vl.hs r2.hs).mpr ((Vl.hs r1.hs).mpr x2)) u1 u2 p2
  · obtain ⟨q1, q2⟩ := w5 (Or.inr c)
    obtain ⟨x1, x2⟩ := hreg _ a0 q1
    refine ok_mono (up_ok s i _ h ⟨b0, q2⟩) fun x s1 ⟨es, hx⟩ => ?_
    subst es
    refine ⟨x1, x1, ok_mono (store_ok s1 x _ _ h.1.1.1 hx x2) fun _ s2 ⟨_, hs⟩ => ?_⟩
    have rx : Rx s1 s2 := by
      rcases hs with hs | hs
      · exact Rx.hy (h.1.1.ss hs) hs.hy h.1.2.1
      · exact Rx.hy (h.1.1.sv hs) hs.hy h.1.2.1
    have e73 : gI s2 73 0 = gI s1 73 0 ∧ gI s2 2050 0 = gI s1 2050 0 := by
      rcases hs with hs | hs
      · exact ⟨hs.1 73 0, hs.1 2050 0⟩
      · exact ⟨hs.1 73 0, hs.1 2050 0⟩
    obtain ⟨d1, d2, d3, d4⟩ := rx.same h.1 h.2.1.1 h.2.1.2.1
    have p2 := hp.of d3 rx.wd
    exact (h.rx rx e73.1 e73.2).done p2.1 p2.2.1 p2.2.2
  · rename_i d0 d1 d3 d4 d5 d6 d7 d8
    have c11 : iO (wd s (pq s) i) = 11 := op_small2 _ (iO_in _).1 ho d0 d1 x2 d3 d4 d5 d6 d7 d8 c
    have q1 := w11 c11
    refine ok_mono (table_x s h.1.1) fun v s1 hd => ?_
    rcases hd.ic h hp with ⟨e, w⟩ | ⟨e, i1, hl, rx⟩
    · exact ⟨fun _ => w, fun d => absurd (by rw [e]; decide) d⟩
    · refine ⟨fun d => absurd (Int32.lt_of_le_of_lt e d) Int32.lt_irrefl, fun _ => ?_⟩
      obtain ⟨d1, d2, d3, d4⟩ := rx.same h.1 h.2.1.1 h.2.1.2.1
      have w := i1.setDone (r := iA (wd s (pq s) i)) (k := 5) (v := v.toInt64) (by rw [d3, rx.reg]; exact ⟨a0, q1⟩) (Vl.of hl ⟨by decide, by decide⟩ i1.1.1.used.2) (hp.of d3 rx.wd)
      rw [d1, d4] at w
      exact w
