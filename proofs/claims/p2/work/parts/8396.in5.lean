/-! Writing tables, metamethods of two operands, arithmetic, length, comparison. -/
theorem raise_out {s : S1} (h : RI false s) (hh : v_hand_n s = 0) (n c : Int32) (hc : c = 3 ∨ c = 4) : Out (sI (sL (sI s 64 0 3) 65 0 n.toInt64) 73 0 c) := by
  have rx := (Nx.raise h.1 n c hc).rx h.2.1
  have r2 := h.rx rx
  refine ⟨rx.1, rx.2.1, ?_, Or.inr (Or.inl ⟨?_, r2.2.2⟩)⟩
  · simp only [v_hand_n, gI_sI, gI_sL, gI_sA, gI_sB, gI_sAf, gI_sBf, gL_sI, gL_sL, gL_sA, gL_sB, gL_sAf, gL_sBf, gA_sI, gA_sL, gA_sA, gA_sB, gA_sAf, gA_sBf, gB_sI, gB_sL, gB_sA, gB_sB, gB_sAf, gB_sBf, Nat.reduceEqDiff, Nat.reduceMul, Nat.reduceAdd, false_and, true_and, and_true, and_false, if_true, if_false]
    exact hh
  · simp only [f_todo, gI_sI, gI_sL, gI_sA, gI_sB, gI_sAf, gI_sBf, gL_sI, gL_sL, gL_sA, gL_sB, gL_sAf, gL_sBf, gA_sI, gA_sL, gA_sA, gA_sB, gA_sAf, gA_sBf, gB_sI, gB_sL, gB_sA, gB_sB, gB_sAf, gB_sBf, Nat.reduceEqDiff, Nat.reduceMul, Nat.reduceAdd, false_and, true_and, and_true, and_false, if_true, if_false]
    exact hc
/-- what the instruction is not: one that makes or takes an open row, jumps or returns -/
def Pl (s : S1) (i : Int32) : Prop := ¬ mks (wd s (pq s) i) ∧ ¬ us (wd s (pq s) i) ∧ iO (wd s (pq s) i) ≠ 30 ∧ iO (wd s (pq s) i) ≠ 37 ∧ iO (wd s (pq s) i) ≠ 38
theorem Ic.callTo {s s2 : S1} {i m a b gk : Int32} {gv : Int64} (h : Ic s i) (ec : Ec s s2 m a b) (g2 : GG s2) (hv : Vl false s2 gk gv) (h0 : gI s2 2050 0 = 0) (hn : gI s2 898 0 ≤ 250) (hp : Pl s i) (hw : Wm s i m a b) : Out (sI (sL (sI s2 75 0 gk) 76 0 gv) 73 0 1) := by
  have gg := g2.calling hv
  have g4 : GG (sI (sL (sI s2 75 0 gk) 76 0 gv) 73 0 1) := gg.hx ((Hx0.refl _).sI (by decide))
  refine h.call (ec.hy (((Hy.refl s2).sI (by decide)).sL.sI (by decide))) g4 ?_ ?_ ?_ hp.1 hp.2.1 hp.2.2 hw
  · simp only [f_todo, gI_sI, gI_sL, gI_sA, gI_sB, gI_sAf, gI_sBf, gL_sI, gL_sL, gL_sA, gL_sB, gL_sAf, gL_sBf, gA_sI, gA_sL, gA_sA, gA_sB, gA_sAf, gA_sBf, gB_sI, gB_sL, gB_sA, gB_sB, gB_sAf, gB_sBf, Nat.reduceEqDiff, Nat.reduceMul, Nat.reduceAdd, false_and, true_and, and_true, and_false, if_true, if_false]
  · simp only [v_hand_n, gI_sI, gI_sL, gI_sA, gI_sB, gI_sAf, gI_sBf, gL_sI, gL_sL, gL_sA, gL_sB, gL_sAf, gL_sBf, gA_sI, gA_sL, gA_sA, gA_sB, gA_sAf, gA_sBf, gB_sI, gB_sL, gB_sA, gB_sB, gB_sAf, gB_sBf, Nat.reduceEqDiff, Nat.reduceMul, Nat.reduceAdd, false_and, true_and, and_true, and_false, if_true, if_false]
    exact h0
  · simp only [v_args_n, gI_sI, gI_sL, gI_sA, gI_sB, gI_sAf, gI_sBf, gL_sI, gL_sL, gL_sA, gL_sB, gL_sAf, gL_sBf, gA_sI, gA_sL, gA_sA, gA_sB, gA_sAf, gA_sBf, gB_sI, gB_sL, gB_sA, gB_sB, gB_sAf, gB_sBf, Nat.reduceEqDiff, Nat.reduceMul, Nat.reduceAdd, false_and, true_and, and_true, and_false, if_true, if_false]
    exact hn
theorem Ec.ri {s s' : S1} {m a b : Int32} (ec : Ec s s' m a b) (h : RI false s) (g : GG s') : RI false s' := ⟨g, (ec.1 92 0 (by decide)).trans h.2.1, h.2.2.topz ec.topz⟩
theorem Ec.ic {s s' : S1} {i m a b : Int32} (ec : Ec s s' m a b) (h : Ic s i) (g : GG s') (ht : gI s' 73 0 = gI s 73 0) (hh : gI s' 2050 0 = gI s 2050 0) : Ic s' i := by
  refine ⟨ec.ri h.1 g, ?_, ht.trans h.2.2.1, hh.trans h.2.2.2⟩
  obtain ⟨e1, e2, e3, e4, e5, e6, e7, e8, e9, -⟩ := ec.same
  have e10 : t_rowAt s' (cu s) (tp s) = t_rowAt s (cu s) (tp s) := ec.2.1 35 _ _ (by decide) (Or.inl (by decide))
  obtain ⟨t1, t2, t3, t4, t5, t6⟩ := h.2.1
  unfold Tf
  rw [e1, e2, e3, e5, e7, e8, e9, e10]
  simp only [e4]
  exact ⟨t1, t2, t3, t4, t5, t6⟩
theorem Ec.gf {s s1 s2 : S1} {m a b : Int32} (ec : Ec s s1 m a b) (h : Gf s1 s2) : Ec s s2 m a b := ec.hy h.hy
theorem Pl.of {s s' : S1} {i : Int32} (h : Pl s i) (e1 : pq s' = pq s) (e2 : ∀ p j, wd s' p j = wd s p j) : Pl s' i := by
  unfold Pl at *
  rw [e1]
  simp only [e2]
  exact h
theorem q_either_ok (s s1 : S1) (i m a b e k1 k2 : Int32) (v1 v2 : Int64) (h : Ic s i) (ec : Ec s s1 m a b) (g1 : GG s1) (h0 : gI s1 2050 0 = 0) (hv1 : Vl false s1 k1 v1) (hv2 : Vl false s1 k2 v2) (he : 0 ≤ e ∧ e < 22) (hp : Pl s i) (hw : Wm s i m a b) :
    ok (M_Mo_either e k1 v1 k2 v2) s1 (fun r s' => (r ≠ 0 → Out s') ∧ (r = 0 → Gf s1 s') ∧ Hy s1 s' ∧ (r ≠ 0 → f_todo s' = 1)) := by
  have hf := ec.ri h.1 g1
  have fin : ∀ s2, Gf s1 s2 → Vl false s1 (gI s2 66 0) (gL s2 67 0) → ok (M_Mo_either_j24 k1 v1 k2 v2) s2 (fun r s' => (r ≠ 0 → Out s') ∧ (r = 0 → Gf s1 s') ∧ Hy s1 s' ∧ (r ≠ 0 → f_todo s' = 1)) := fun s2 g2 vg => by
    have gg2 := g1.hx g2.hx
    simp only [M_Mo_either_j24, ok_B, ok_C, ok_R, ok_L, ok_K, ok_GI, ok_GL, ok_PI, ok_PL, ok_AI, ok_AL, ok_SI, ok_SL, ok_Pr, ok_CI, cmp_lt, cmp_le, cmp_gt, cmp_ge, cmp_eq, nar0, nar1, Sum.elim_inl, Sum.elim_inr]
    refine ok_mono (arguments_ok s2 k1 k2 v1 v2 gg2 ((Vl.hs g2.hs).mpr hv1) ((Vl.hs g2.hs).mpr hv2)) fun _ s3 ⟨ag, an⟩ => ?_
    refine ⟨fun _ => ?_, fun c => absurd c (by decide), (g2.hy.trans (ag.hy (Or.inl rfl))).trans (((Hy.refl s3).sI (by decide)).sL.sI (by decide)), fun _ => by simp only [f_todo, gI_sI, gI_sL, gI_sA, gI_sB, gI_sAf, gI_sBf, gL_sI, gL_sL, gL_sA, gL_sB, gL_sAf, gL_sBf, gA_sI, gA_sL, gA_sA, gA_sB, gA_sAf, gA_sBf, gB_sI, gB_sL, gB_sA, gB_sB, gB_sAf, gB_sBf, Nat.reduceEqDiff, Nat.reduceMul, Nat.reduceAdd, false_and, true_and, and_true, and_false, if_true, if_false]⟩
    have vc : Vl false s3 (gI s2 66 0) (gL s2 67 0) := (Vl.hs ag.h7).mpr ((Vl.hs g2.hs).mpr vg)
    refine h.callTo ((ec.gf g2).hy (ag.hy (Or.inl rfl))) ag.1 vc ?_ ?_ hp hw
    · rw [ag.2.1 2050 0 (by decide), g2.I 2050 (by decide)]
      exact h0
    · have : gI s3 898 0 = 2 := an
      rw [this]
      decide
  simp only [M_Mo_either, ok_B, ok_C, ok_R, ok_L, ok_K, ok_GI, ok_GL, ok_PI, ok_PL, ok_AI, ok_AL, ok_SI, ok_SL, ok_Pr, ok_CI, cmp_lt, cmp_le, cmp_gt, cmp_ge, cmp_eq, nar0, nar1, Sum.elim_inl, Sum.elim_inr]
  refine ok_mono (meta_ok s1 k1 e v1 g1 hf.2.2.2.1 hv1 he) fun r s2 ⟨gk, gv, es, q2⟩ => ?_
  have g2 : Gf s1 s2 := Or.inr ⟨gk, gv, es⟩
  have r66 : gI s2 66 0 = gk ∧ gL s2 67 0 = gv := by
    rw [es]
    simp only [gI_sI, gI_sL, gI_sA, gI_sB, gI_sAf, gI_sBf, gL_sI, gL_sL, gL_sA, gL_sB, gL_sAf, gL_sBf, gA_sI, gA_sL, gA_sA, gA_sB, gA_sAf, gA_sBf, gB_sI, gB_sL, gB_sA, gB_sB, gB_sAf, gB_sBf, Nat.reduceEqDiff, Nat.reduceMul, Nat.reduceAdd, false_and, true_and, and_true, and_false, if_true, if_false]
  refine ⟨fun c => ?_, fun c => fin s2 g2 (by rw [r66.1, r66.2]; exact (q2 c).1)⟩
  have f2 := hf.rx (Rx.hx g1 g2.hx g2.hy hf.2.1)
  refine ok_mono (meta_ok s2 k2 e v2 f2.1 f2.2.2.2.1 ((Vl.hs g2.hs).mpr hv2) he) fun r3 s3 ⟨hk, hv, es3, q3⟩ => ?_
  rw [g2.got] at es3
  have g3 : Gf s1 s3 := Or.inr ⟨hk, hv, es3⟩
  have r67 : gI s3 66 0 = hk ∧ gL s3 67 0 = hv := by
    rw [es3]
    simp only [gI_sI, gI_sL, gI_sA, gI_sB, gI_sAf, gI_sBf, gL_sI, gL_sL, gL_sA, gL_sB, gL_sAf, gL_sBf, gA_sI, gA_sL, gA_sA, gA_sB, gA_sAf, gA_sBf, gB_sI, gB_sL, gB_sA, gB_sB, gB_sAf, gB_sBf, Nat.reduceEqDiff, Nat.reduceMul, Nat.reduceAdd, false_and, true_and, and_true, and_false, if_true, if_false]
  refine ⟨fun d => ⟨fun z => absurd rfl z, fun _ => g3, g3.hy, fun z => absurd rfl z⟩, fun d => fin s3 g3 (by rw [r67.1, r67.2]; exact (Vl.hs g2.hs).mp (q3 d).1)⟩
theorem q_write_ok (s : S1) (i k kk vk : Int32) (v kv vv : Int64) (h : Ic s i) (hv : Vl false s k v) (hk : Vl false s kk kv) (hvv : Vl false s vk vv) (hp : Pl s i) : ok (M_Mo_write k v kk kv vk vv) s (fun _ s' => Out s') := by
  simp only [M_Mo_write, ok_B, ok_C, ok_R, ok_L, ok_K, ok_GI, ok_GL, ok_PI, ok_PL, ok_AI, ok_AL, ok_SI, ok_SL, ok_Pr, ok_CI, cmp_lt, cmp_le, cmp_gt, cmp_ge, cmp_eq, nar0, nar1, Sum.elim_inl, Sum.elim_inr]
  refine ok_mono (ok_W (Q := fun y s' => Gf s s' ∧ Sum.elim (fun _ => True) (Sum.elim (fun z => z.1 = kk ∧ z.2.1 = kv ∧ z.2.2.1 = vk ∧ z.2.2.2.1 = vv ∧ Lv false s z.2.2.2.2.toInt32 5) (Sum.elim (fun z => z.1 = kk ∧ z.2.1 = kv ∧ z.2.2.1 = vk ∧ z.2.2.2.1 = vv ∧ Vl false s z.2.2.2.2.1 z.2.2.2.2.2 ∧ Vl false s (gI s' 66 0) (gL s' 67 0)) (fun _ => True))) y)
    (fun x s' => Gf s s' ∧ x.1 = kk ∧ x.2.1 = kv ∧ x.2.2.1 = vk ∧ x.2.2.2.1 = vv ∧ Vl false s x.2.2.2.2.1 x.2.2.2.2.2.1 ∧ 1 ≤ x.2.2.2.2.2.2 ∧ x.2.2.2.2.2.2 ≤ 100) (fun x _ => (101 - x.2.2.2.2.2.2).toNatClampNeg) ?_ _ _ ⟨Or.inl rfl, rfl, rfl, rfl, rfl, hv, (show (1 : Int32) ≤ 1 by decide), (show (1 : Int32) ≤ 100 by decide)⟩) ?_
  · rintro ⟨x1, x2, x3, x3b, x4, x5, x6⟩ s1 ⟨g1, e1, e2, e3, e3b, e4, e5, e6⟩
    dsimp only at e1 e2 e3 e3b e4 e5 e6
    subst e1 e2 e3 e3b
    simp only [M_Mo_write_L9, ok_B, ok_C, ok_R, ok_L, ok_K, ok_GI, ok_GL, ok_PI, ok_PL, ok_AI, ok_AL, ok_SI, ok_SL, ok_Pr, ok_CI, cmp_lt, cmp_le, cmp_gt, cmp_ge, cmp_eq, nar0, nar1, Sum.elim_inl, Sum.elim_inr]
    refine ⟨fun c => ?_, fun c => ⟨g1, by trivial⟩⟩
    subst c
    have i1 := g1.ic h
    have l0 := e4.lv5 (Or.inr (Or.inl rfl))
    have l1 : Lv false s1 x5.toInt32 5 := (Lv.hs g1.hs).mpr l0
    refine ok_mono (raw_ok s1 x5.toInt32 x1 x2 i1.1.1 l1) fun r s2 ⟨gk, gv, es, q1, q2, q3, q4⟩ => ?_
    rw [g1.got] at es
    have g2 : Gf s s2 := Or.inr ⟨gk, gv, es⟩
    refine ⟨fun c => ?_, fun c => ⟨g2, by trivial, by trivial, by trivial, by trivial, l0⟩⟩
    have i2 := g2.ic h
    refine ok_mono (meta_ok s2 5 1 x5 i2.1.1 i2.1.2.2.2.1 ((Vl.hs g2.hs).mpr e4) ⟨by decide, by decide⟩) fun r3 s3 ⟨hk3, hv3, es3, p2⟩ => ?_
    rw [g2.got] at es3
    have g3 : Gf s s3 := Or.inr ⟨hk3, hv3, es3⟩
    have r67 : gI s3 66 0 = hk3 ∧ gL s3 67 0 = hv3 := by
      rw [es3]
      simp only [gI_sI, gI_sL, gI_sA, gI_sB, gI_sAf, gI_sBf, gL_sI, gL_sL, gL_sA, gL_sB, gL_sAf, gL_sBf, gA_sI, gA_sL, gA_sA, gA_sB, gA_sAf, gA_sBf, gB_sI, gB_sL, gB_sA, gB_sB, gB_sAf, gB_sBf, Nat.reduceEqDiff, Nat.reduceMul, Nat.reduceAdd, false_and, true_and, and_true, and_false, if_true, if_false]
    refine ⟨fun d => ⟨g3, by trivial, by trivial, by trivial, by trivial, l0⟩, fun d => ?_⟩
    have vh : Vl false s hk3 hv3 := (Vl.hs g2.hs).mp (p2 d).1
    rw [r67.1, r67.2]
    refine ⟨fun f => ⟨g3, by trivial, by trivial, by trivial, by trivial, e4, vh⟩, fun f => ⟨fun g => ⟨g3, by trivial⟩, fun g => ?_⟩⟩
    have nn : (1 ≤ x6 + 1 ∧ x6 + 1 ≤ 100) ∧ (101 - (x6 + 1)).toNatClampNeg < (101 - x6).toNatClampNeg := by
      clear g1 g2 g3 i1 i2 l1 l0 q1 q2 q3 q4 p2 vh r67 es es3 e4 h hv hk hvv hp
      exact ⟨⟨by grind, by grind⟩, clamp_lt (by grind) (by grind)⟩
    exact ⟨⟨g3, by trivial, by trivial, by trivial, by trivial, vh, nn.1⟩, nn.2⟩
  · rintro y s1 ⟨g1, hy⟩
    have i1 := g1.ic h
    obtain ⟨c1, c2, c3, c4, c5, c6⟩ := g1.same
    have n1 := top_num i1.1 i1.2.1.1 i1.2.1.2.1
    have p1 := hp.of c3 c5
    rcases y with y | y | y | y
    · simp only [ok_B, ok_C, ok_R, ok_L, ok_K, ok_GI, ok_GL, ok_PI, ok_PL, ok_AI, ok_AL, ok_SI, ok_SL, ok_Pr, ok_CI, cmp_lt, cmp_le, cmp_gt, cmp_ge, cmp_eq, nar0, nar1, Sum.elim_inl, Sum.elim_inr]
      refine ok_mono (q_raise_ok s1 2) fun w s2 ⟨ew, es⟩ => ?_
      subst es
      exact i1.raise 2 _ (by decide)
    · obtain ⟨y1, y2, y3, y4, y5⟩ := y
      simp only [Sum.elim_inl, Sum.elim_inr] at hy
      obtain ⟨z1, z2, z3, z4, z5⟩ := hy
      subst z1 z2 z3 z4
      simp only [M_Mo_write_j48, ok_B, ok_C, ok_R, ok_L, ok_K, ok_GI, ok_GL, ok_PI, ok_PL, ok_AI, ok_AL, ok_SI, ok_SL, ok_Pr, ok_CI, cmp_lt, cmp_le, cmp_gt, cmp_ge, cmp_eq, nar0, nar1, Sum.elim_inl, Sum.elim_inr]
      refine ok_mono (put_ok s1 y5.toInt32 y1 y3 0 y2 y4 i1.1.1 ((Lv.hs g1.hs).mpr z5) ((Vl.hs g1.hs).mpr hk) ((Vl.hs g1.hs).mpr hvv) (by rw [i1.2.2.2]; decide) (Or.inl i1.1.2.1)) fun r s2 ⟨nx, _, hn, _⟩ => ?_
      have rx := nx.rx i1.1.2.1
      have r2 := i1.1.rx rx
      have t2 := i1.2.1.rx i1.1 rx
      have h2 : v_hand_n s2 = 0 := hn.trans i1.2.2.2
      obtain ⟨d1, d2, d3, d4⟩ := rx.same i1.1 i1.2.1.1 i1.2.1.2.1
      rcases nx.2.2.2.2.2 with w | w
      · have ic2 : Ic s2 i := ⟨r2, t2, w.trans i1.2.2.1, h2⟩
        have p2 := p1.of d3 (fun p j => by
          show gA s2 55 0 (gA s2 49 0 p + j) = gA s1 55 0 (gA s1 49 0 p + j)
          rw [rx.2.2.2.A 49 (by decide), rx.2.2.2.A 55 (by decide)])
        exact ic2.done p2.1 p2.2.1 p2.2.2
      · exact ⟨r2.1, r2.2.1, h2, Or.inr (Or.inl ⟨w, r2.2.2⟩)⟩
    · obtain ⟨y1, y2, y3, y4, y5, y6⟩ := y
      simp only [Sum.elim_inl, Sum.elim_inr] at hy
      obtain ⟨z1, z2, z3, z4, z5, z6⟩ := hy
      subst z1 z2 z3 z4
      simp only [ok_B, ok_C, ok_R, ok_L, ok_K, ok_GI, ok_GL, ok_PI, ok_PL, ok_AI, ok_AL, ok_SI, ok_SL, ok_Pr, ok_CI, cmp_lt, cmp_le, cmp_gt, cmp_ge, cmp_eq, nar0, nar1, Sum.elim_inl, Sum.elim_inr]
      refine ok_mono (arguments_ok s1 y5 y1 y6 y2 i1.1.1 ((Vl.hs g1.hs).mpr z5) ((Vl.hs g1.hs).mpr hk)) fun _ s2 ⟨ag, an⟩ => ?_
      have an' : gI s2 898 0 = 2 := an
      refine ok_mono (add7_ok s2 y3 y4 ag.1 ((Vl.hs ag.h7).mpr ((Vl.hs g1.hs).mpr hvv)) (by rw [an']; decide)) fun _ s3 ⟨ag3, an3⟩ => ?_
      rw [an'] at an3
      have ag13 := ag.trans ag3
      have rx2 := ag13.rx (Or.inl rfl) i1.1.2.1
      have i2 := i1.rx rx2 (ag13.2.1 73 0 (by decide)) (ag13.2.1 2050 0 (by decide))
      obtain ⟨d1, d2, d3, d4⟩ := rx2.same i1.1 i1.2.1.1 i1.2.1.2.1
      have n2 := top_num i2.1 i2.2.1.1 i2.2.1.2.1
      have p2 := p1.of d3 (fun p j => by
        show gA s3 55 0 (gA s3 49 0 p + j) = gA s1 55 0 (gA s1 49 0 p + j)
        rw [ag13.2.2.2.1 49 0 _ (by decide), ag13.2.2.2.1 55 0 _ (by decide)])
      refine ok_mono (expect_ok s3 3 0 0 i2.1.1 n2.1 n2.2.1) fun _ s4 ⟨e4, g4, ec⟩ => ?_
      simp only [M_Mo_callGot, ok_B, ok_C, ok_R, ok_L, ok_K, ok_GI, ok_GL, ok_PI, ok_PL, ok_AI, ok_AL, ok_SI, ok_SL, ok_Pr, ok_CI, cmp_lt, cmp_le, cmp_gt, cmp_ge, cmp_eq, nar0, nar1, Sum.elim_inl, Sum.elim_inr]
      have r66 : gI s4 66 0 = gI s1 66 0 := by
        rw [e4]
        exact ag13.2.1 66 0 (by decide)
      have r67 : gL s4 67 0 = gL s1 67 0 := by
        rw [e4]
        exact ag13.2.2.1 67 0
      simp only [gI_sI, gI_sL, gI_sA, gI_sB, gI_sAf, gI_sBf, gL_sI, gL_sL, gL_sA, gL_sB, gL_sAf, gL_sBf, gA_sI, gA_sL, gA_sA, gA_sB, gA_sAf, gA_sBf, gB_sI, gB_sL, gB_sA, gB_sB, gB_sAf, gB_sBf, Nat.reduceEqDiff, Nat.reduceMul, Nat.reduceAdd, false_and, true_and, and_true, and_false, if_true, if_false, r66, r67]
      have q2 : Hs s3 s4 := by
        rw [e4]
        exact (((Hw.refl s3).sA (by decide)).sA (by decide)).sA (by decide) |>.hs
      have vc : Vl false s4 (gI s1 66 0) (gL s1 67 0) := (Vl.hs q2).mpr ((Vl.hs ag13.h7).mpr ((Vl.hs g1.hs).mpr z6))
      refine i2.callTo ec g4 vc ?_ ?_ p2 (Or.inr (Or.inl rfl))
      · rw [e4]
        exact i2.2.2.2
      · rw [e4]
        show gI s3 898 0 ≤ 250
        rw [an3]
        decide
    · simp only [ok_B, ok_C, ok_R, ok_L, ok_K, ok_GI, ok_GL, ok_PI, ok_PL, ok_AI, ok_AL, ok_SI, ok_SL, ok_Pr, ok_CI, cmp_lt, cmp_le, cmp_gt, cmp_ge, cmp_eq, nar0, nar1, Sum.elim_inl, Sum.elim_inr]
      refine ok_mono (q_raise_ok s1 4) fun w s2 ⟨ew, es⟩ => ?_
      subst es
      exact i1.raise 4 _ (by decide)
theorem floorMod0_ok (s : S1) (a b : Int64) (hb : b ≠ 0) : ok (M_Mth_floorMod a b) s (fun _ s' => s' = s) := by
  simp only [M_Mth_floorMod, ok_B, ok_C, ok_R, ok_L, ok_K, ok_GI, ok_GL, ok_PI, ok_PL, ok_AI, ok_AL, ok_SI, ok_SL, ok_Pr, ok_CI, cmp_lt, cmp_le, cmp_gt, cmp_ge, cmp_eq, nar0, nar1, Sum.elim_inl, Sum.elim_inr]
  exact ⟨hb, fun _ => by trivial, fun _ => ⟨fun _ => by trivial, fun _ => by trivial⟩⟩
theorem floorDiv_ok (s : S1) (a b : Int64) (hb : b ≠ 0) : ok (M_Mth_floorDiv a b) s (fun _ s' => s' = s) := by
  simp only [M_Mth_floorDiv, ok_B, ok_C, ok_R, ok_L, ok_K, ok_GI, ok_GL, ok_PI, ok_PL, ok_AI, ok_AL, ok_SI, ok_SL, ok_Pr, ok_CI, cmp_lt, cmp_le, cmp_gt, cmp_ge, cmp_eq, nar0, nar1, Sum.elim_inl, Sum.elim_inr]
  exact ⟨hb, fun _ => by trivial, fun _ => ⟨fun _ => by trivial, fun _ => by trivial⟩⟩
theorem q_shifted_ok (s : S1) (a b : Int64) : ok (M_Mo_shifted a b) s (fun _ s' => s' = s) := by
  simp only [M_Mo_shifted, ok_B, ok_C, ok_R, ok_L, ok_K, ok_GI, ok_GL, ok_PI, ok_PL, ok_AI, ok_AL, ok_SI, ok_SL, ok_Pr, ok_CI, cmp_lt, cmp_le, cmp_gt, cmp_ge, cmp_eq, nar0, nar1, Sum.elim_inl, Sum.elim_inr]
  exact ⟨fun _ => by trivial, fun _ => ⟨fun _ => ⟨fun _ => by trivial, fun _ => by trivial⟩, fun _ => by trivial⟩⟩
theorem q_reckon_ok (s : S1) (o : Int32) (a b : Int64) (hb : o = 16 ∨ o = 19 → b ≠ 0) : ok (M_Mo_reckon o a b) s (fun _ s' => s' = s) := by
  simp only [M_Mo_reckon, ok_B, ok_C, ok_R, ok_L, ok_K, ok_GI, ok_GL, ok_PI, ok_PL, ok_AI, ok_AL, ok_SI, ok_SL, ok_Pr, ok_CI, cmp_lt, cmp_le, cmp_gt, cmp_ge, cmp_eq, nar0, nar1, Sum.elim_inl, Sum.elim_inr]
  refine ⟨fun _ => by trivial, fun _ => ⟨fun _ => by trivial, fun _ => ⟨fun _ => by trivial, fun _ => ⟨fun c => floorMod0_ok s a b (hb (Or.inl c)), fun _ => ⟨fun c => floorDiv_ok s a b (hb (Or.inr c)), fun _ => ⟨fun _ => by trivial, fun _ => ⟨fun _ => by trivial, fun _ => ⟨fun _ => by trivial, fun _ => ⟨fun _ => q_shifted_ok s a b, fun _ => ⟨fun _ => ⟨fun _ => by trivial, fun _ => q_shifted_ok s a _⟩, fun _ => ⟨fun _ => by trivial, fun _ => by trivial⟩⟩⟩⟩⟩⟩⟩⟩⟩⟩⟩
