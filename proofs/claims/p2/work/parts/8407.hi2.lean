/-! Calls from registers. -/
theorem sub_sub1 (e a : Int32) : e - a - 1 = e - (a + 1) := by grind
theorem gather25_ok (s : S1) (i n e a : Int32) (h : Ic s i) (aa : 0 ≤ a ∧ a ≤ 255) (he : a + 1 ≤ e ∧ e ≤ 1000) (h0 : ∀ k, a + 1 ≤ k → k < e → (n ≠ 0 → 0 ≤ k ∧ k < a_registers s (pq s)) ∧ (n = 0 → (k < t_rowAt s (cu s) (tp s) → 0 ≤ k ∧ k < a_registers s (pq s)) ∧ (¬ k < t_rowAt s (cu s) (tp s) → 0 ≤ k - t_rowAt s (cu s) (tp s) ∧ k - t_rowAt s (cu s) (tp s) < t_rowCount s (cu s) (tp s)))) :
    ok (M_Mo_gather_j25 (cu s) (tp s) (a) n e) s (fun r s' => (r = 0 → Out s') ∧ (r ≠ 0 → Ic s' i ∧ Ga s s' ∧ (0 ≤ v_args_n s' ∧ v_args_n s' ≤ 250) ∧ t_rowCount s' (cu s) (tp s) = 0)) := by
  have nt := top_num h.1 h.2.1.1 h.2.1.2.1
  have a1 : 0 ≤ a + 1 ∧ a + 1 ≤ 256 := by
    clear h h0 nt
    exact ⟨by grind, by grind⟩
  have ag0 := zero7 h.1.1
  have e0 : gI (sI s 898 0 0) 898 0 = 0 := by simp only [gI_sI, gI_sL, gI_sA, gI_sB, gI_sAf, gI_sBf, gL_sI, gL_sL, gL_sA, gL_sB, gL_sAf, gL_sBf, gA_sI, gA_sL, gA_sA, gA_sB, gA_sAf, gA_sBf, gB_sI, gB_sL, gB_sA, gB_sB, gB_sAf, gB_sBf, Nat.reduceEqDiff, Nat.reduceMul, Nat.reduceAdd, false_and, true_and, and_true, and_false, if_true, if_false]
  have rx0 := ag0.rx (Or.inl rfl) h.1.2.1
  have i0 := h.rx rx0 (ag0.2.1 73 0 (by decide)) (ag0.2.1 2050 0 (by decide))
  simp only [M_Mo_gather_j25, ok_B, ok_C, ok_R, ok_L, ok_K, ok_GI, ok_GL, ok_PI, ok_PL, ok_AI, ok_AL, ok_SI, ok_SL, ok_Pr, ok_CI, cmp_lt, cmp_le, cmp_gt, cmp_ge, cmp_eq, nar0, nar1, Sum.elim_inl, Sum.elim_inr, sub_sub1]
  generalize sI s 898 0 0 = z at *
  obtain ⟨d1, d2, d3, d4⟩ := rx0.same h.1 h.2.1.1 h.2.1.2.1
  have e00 : gI z 898 0 = a + 1 - (a + 1) := by
    rw [e0, Int32.sub_self]
  refine ⟨fun c => ?_, fun c => ?_⟩
  · refine ok_mono (ok_W (Q := fun y s' => y = (cu s, tp s) ∧ Ag 7 z s' ∧ Ic s' i ∧ (0 ≤ gI s' 898 0 ∧ gI s' 898 0 ≤ 250)) (fun x s' => (x.1 = cu s ∧ x.2.1 = tp s ∧ x.2.2.1 = n ∧ x.2.2.2.1 = e) ∧ (a + 1 ≤ x.2.2.2.2 ∧ x.2.2.2.2 ≤ e) ∧ Ag 7 z s' ∧ Ic s' i ∧ gI s' 898 0 = x.2.2.2.2 - (a + 1)) (fun x _ => (e - x.2.2.2.2).toNatClampNeg) ?_ (cu s, tp s, n, e, a + 1) z ⟨⟨rfl, rfl, rfl, rfl⟩, ⟨(show a + 1 ≤ a + 1 from Int32.le_refl _), (show a + 1 ≤ e from he.1)⟩, Ag.refl 7 i0.1.1, i0, (show gI z 898 0 = a + 1 - (a + 1) from e00)⟩) ?_
    · rintro ⟨y1, y2, y3, y4, k⟩ s1 ⟨⟨q1, q2, q3, q4⟩, ⟨k1, k2⟩, ag, i1, hn⟩
      dsimp only at q1 q2 q3 q4 k1 k2 hn
      subst q1 q2 q3 q4
      have rx1 := ag.rx (Or.inl rfl) i0.1.2.1
      obtain ⟨f1, f2, f3, f4⟩ := rx1.same i0.1 i0.2.1.1 i0.2.1.2.1
      simp only [M_Mo_gather_L68, M_Mo_gather_j92, ok_B, ok_C, ok_R, ok_L, ok_K, ok_GI, ok_GL, ok_PI, ok_PL, ok_AI, ok_AL, ok_SI, ok_SL, ok_Pr, ok_CI, cmp_lt, cmp_le, cmp_gt, cmp_ge, cmp_eq, nar0, nar1, Sum.elim_inl, Sum.elim_inr]
      refine ⟨fun d => ⟨by trivial, ag, i1, ?_⟩, fun d => ?_⟩
      · have ek := Int32.le_antisymm k2 d
        rw [hn, ek]
        refine ⟨?_, c⟩
        clear h h0 i0 i1 ag ag0 rx0 rx1 hn
        grind
      · have hlt := Int32.not_le.mp d
        have nn := gath_num2 a1 ⟨Int32.le_trans (by decide) (Int32.le_trans a1.1 he.1), he.2⟩ c k1 hlt
        obtain ⟨g0, g1⟩ := h0 k k1 hlt
        have e35 : t_rowAt s1 (cu s) (tp s) = t_rowAt s (cu s) (tp s) := (ag.2.2.2.1 35 _ _ (by decide)).trans (ag0.2.2.2.1 35 _ _ (by decide))
        have e36 : t_rowCount s1 (cu s) (tp s) = t_rowCount s (cu s) (tp s) := (ag.2.2.2.1 36 _ _ (by decide)).trans (ag0.2.2.2.1 36 _ _ (by decide))
        have er : a_registers s1 (pq s) = a_registers s (pq s) := (rx1.reg _).trans (rx0.reg _)
        have go : ∀ fl, (fl = 0 → y3 ≠ 0) → (fl ≠ 0 → y3 = 0) → ok (M_Mo_addAt 7 0 (cu s) (tp s) fl k) s1 (fun _ s' => Ag 7 s1 s' ∧ gI s' (128 * 7 + 2) 0 = gI s1 (128 * 7 + 2) 0 + 1) := fun fl z1 z2 => by
          have w := addAt_ok s1 i fl k 7 (Or.inl rfl) i1 (fun q => by rw [f3, d3, er]; exact g0 (z1 q)) (fun q => by rw [f1, f2, f3, d1, d2, d3, er, e35, e36]; exact g1 (z2 q)) (by simp only [Nat.reduceMul, Nat.reduceAdd]; rw [hn]; exact nn.2.2.2.1)
          rw [f1, f2, d1, d2] at w
          exact w
        have fin : ∀ s2, (Ag 7 s1 s2 ∧ gI s2 (128 * 7 + 2) 0 = gI s1 (128 * 7 + 2) 0 + 1) → (((True ∧ True ∧ True ∧ True) ∧ (a + 1 ≤ k + 1 ∧ k + 1 ≤ y4) ∧ Ag 7 z s2 ∧ Ic s2 i ∧ gI s2 898 0 = k + 1 - (a + 1)) ∧ (y4 - (k + 1)).toNatClampNeg < (y4 - k).toNatClampNeg) := fun s2 ⟨ag2, n2⟩ => by
          simp only [Nat.reduceMul, Nat.reduceAdd] at n2
          refine ⟨⟨⟨trivial, trivial, trivial, trivial⟩, ⟨nn.1, nn.2.1⟩, ag.trans ag2, i1.rx (ag2.rx (Or.inl rfl) i1.1.2.1) (ag2.2.1 73 0 (by decide)) (ag2.2.1 2050 0 (by decide)), ?_⟩, nn.2.2.2.2.1⟩
          rw [n2, hn, nn.2.2.1]
        exact ⟨fun q => ok_mono (go 1 (fun w => absurd w (by decide)) (fun _ => q)) fun _ s2 w => fin s2 w, fun q => ok_mono (go 0 (fun _ => q) (fun w => absurd rfl w)) fun _ s2 w => fin s2 w⟩
    · rintro y s1 ⟨ey, ag, i1, hn⟩
      subst ey
      have rx1 := ag.rx (Or.inl rfl) i0.1.2.1
      obtain ⟨f1, f2, f3, f4⟩ := rx1.same i0.1 i0.2.1.1 i0.2.1.2.1
      obtain ⟨i2, r2⟩ := i1.drop
      rw [f1, f2, d1, d2] at i2 r2
      dsimp only
      refine ⟨nt.2.2, fun q => absurd q (by decide), fun _ => ⟨i2, ⟨fun f u q => ?_, fun f u => ?_, fun a' u j q1 q2 => ?_, fun a' u j q => ?_⟩, hn, r2⟩⟩
      · exact (ag.2.1 f u q).trans (ag0.2.1 f u q)
      · exact (ag.2.2.1 f u).trans (ag0.2.2.1 f u)
      · rw [gA_sA, if_neg (fun w => q2 w.1)]
        exact (ag.2.2.2.1 a' u j q1).trans (ag0.2.2.2.1 a' u j q1)
      · exact (ag.2.2.2.2 a' u j q).trans (ag0.2.2.2.2 a' u j q)
  · obtain ⟨i2, r2⟩ := i0.drop
    rw [d1, d2] at i2 r2
    refine ⟨nt.2.2, ok_mono (q_raise_ok _ 7) fun w s2 ⟨ew, es⟩ => ⟨fun _ => ?_, fun q => absurd rfl q⟩⟩
    subst es
    exact i2.raise 7 _ (by decide)
theorem ga_num {a b r : Int32} (ha : 0 ≤ a ∧ a ≤ 255) (hb : 0 ≤ b ∧ b ≤ 511) (c : ¬ b ≤ 0) (h : a + b - 1 < r) (hr : r < 251) : a + 1 ≤ a + b ∧ a + b ≤ 1000 ∧ ∀ k, a + 1 ≤ k → k < a + b → 0 ≤ k ∧ k < r := by
  exact ⟨by grind, by grind, fun k p q => ⟨by grind, by grind⟩⟩
theorem ga_num2 {a R C r : Int32} (ha : 0 ≤ a ∧ a ≤ 255) (hR : a + 1 ≤ R ∧ R < r) (hr : r < 251) (hC : 0 ≤ C ∧ C ≤ 260) : a + 1 ≤ R + C ∧ R + C ≤ 1000 := by
  exact ⟨by grind, by grind⟩
theorem q_gather_ok (s : S1) (i : Int32) (h : Ic s i) (ho : iO (wd s (pq s) i) = 36 ∨ iO (wd s (pq s) i) = 37) : ok (M_Mo_gather (cu s) (tp s) (iA (wd s (pq s) i)) (iB (wd s (pq s) i))) s (fun r s' => (r = 0 → Out s') ∧ (r ≠ 0 → Ic s' i ∧ Ga s s' ∧ (0 ≤ v_args_n s' ∧ v_args_n s' ≤ 250) ∧ t_rowCount s' (cu s) (tp s) = 0)) := by
  have nt := top_num h.1 h.2.1.1 h.2.1.2.1
  obtain ⟨t1, t2, t3, t4, t5, t6, t7, t8, t9, t10, -⟩ := h.1.top h.2.1.1 h.2.1.2.1
  have aa := iA_in (wd s (pq s) i)
  have bb := iB_in (wd s (pq s) i)
  obtain ⟨-, -, -, -, -, -, -, -, -, -, -, -, -, -, -, -, -, w36, w37, -⟩ := Wn.all h
  have hr := t7.2.1.2
  have rb : iB (wd s (pq s) i) ≠ 0 → Rr s (pq s) (iA (wd s (pq s) i) + iB (wd s (pq s) i) - 1) := by
    rcases ho with c | c
    · exact (w36 c).2.1
    · exact (w37 c).2
  simp only [M_Mo_gather, ok_B, ok_C, ok_R, ok_L, ok_K, ok_GI, ok_GL, ok_PI, ok_PL, ok_AI, ok_AL, ok_SI, ok_SL, ok_Pr, ok_CI, cmp_lt, cmp_le, cmp_gt, cmp_ge, cmp_eq, nar0, nar1, Sum.elim_inl, Sum.elim_inr]
  refine ⟨fun c => ⟨nt.2.2, nt.2.2, ?_⟩, fun c => ?_⟩
  · have b0 : iB (wd s (pq s) i) = 0 := Int32.le_antisymm c bb.1
    have hu : us (wd s (pq s) i) := ⟨by rcases ho with c | c; exact Or.inl c; exact Or.inr (Or.inl c), b0⟩
    obtain ⟨-, q2, q3⟩ := open_in h hu
    have q4 := q2 (by rcases ho with c | c <;> rw [c] <;> decide)
    have nn := ga_num2 aa ⟨q4, q3.2⟩ hr t10
    refine gather25_ok s i _ _ _ h aa nn fun k k1 k2 => ⟨fun q => absurd b0 q, fun _ => gath_num ⟨aa.1, aa.2⟩ q3 hr t10 rfl (Int32.le_trans ?_ k1) k2⟩
    clear h rb hu q2 q3 q4 nn w36 w37 t7 t10 t8 t9 k1 k2
    generalize iA (wd s (pq s) i) = a at *
    grind
  · have nn := ga_num aa bb c (rb (fun q => c (by rw [q]; decide))) hr
    exact gather25_ok s i _ _ _ h aa ⟨nn.1, nn.2.1⟩ fun k k1 k2 => ⟨fun _ => nn.2.2 k k1 k2, fun q => absurd (by rw [q]; decide) c⟩
theorem c36_num {a c r : Int32} (ha : 0 ≤ a ∧ a ≤ 255) (hc : 0 ≤ c ∧ c ≤ 511) (hr : r < 251) (h1 : a < r) (h2 : ¬ c < 2 → a + c - 2 < r) (c0 : c ≠ 0) : 0 ≤ c - 1 ∧ 0 ≤ a ∧ a ≤ 300 ∧ c - 1 ≤ 600 ∧ a + (c - 1) ≤ r := by
  have k0 : (0 : Int32).toInt = 0 := rfl
  have k1 : (1 : Int32).toInt = 1 := rfl
  have k2 : (2 : Int32).toInt = 2 := rfl
  have k3 : (300 : Int32).toInt = 300 := rfl
  have k5 : (255 : Int32).toInt = 255 := rfl
  have k6 : (511 : Int32).toInt = 511 := rfl
  have k7 : (600 : Int32).toInt = 600 := rfl
  have kr : (251 : Int32).toInt = 251 := rfl
  have c0' : c.toInt ≠ 0 := fun e => c0 (by rw [← Int32.toInt_inj, e, k0])
  simp only [i32_le, i32_lt, k0, k2, k3, k5, k6, k7, kr] at ha hc hr h1 h2 ⊢
  have y1 := tI_add (a := a) (b := c) (by omega)
  have y2 := tI_sub (a := a + c) (b := 2) (by rw [k2]; omega)
  have y3 := tI_sub (a := c) (b := 1) (by rw [k1]; omega)
  have y4 := tI_add (a := a) (b := c - 1) (by rw [y3, k1]; omega)
  rw [y2, y1, k2] at h2
  rw [y4, y3, k1]
  omega
theorem Ic.call36 {s s' : S1} {i : Int32} (h : Ic s i) (ho : iO (wd s (pq s) i) = 36) (r0 : t_rowCount s (cu s) (tp s) = 0) (he : Ec s s' 0 (iA (wd s (pq s) i)) (iC (wd s (pq s) i) - 1)) (hg : GG s') (ht : f_todo s' = 1) (hh : v_hand_n s' = 0) (hn : v_args_n s' ≤ 250) : Out s' := by
  obtain ⟨hr, hT, -, -⟩ := id h
  have hz' : f_noCollection s' = 0 := (he.1 92 0 (by decide)).trans hr.2.1
  have hf : RI false s' := ⟨hg, hz', hr.2.2.topz he.topz⟩
  have wf := hr.wf hT
  obtain ⟨-, -, -, -, -, -, -, -, -, -, -, -, -, -, -, -, -, w36, -⟩ := wf.2.2.2.2
  obtain ⟨q1, q2, q3⟩ := w36 ho
  have tf := hr.top hT.1 hT.2.1
  have rg := tf.2.2.2.2.2.2.1.2.1.2
  have cl := tf.2.2.2.2.2.2.1.2.2.2.2.2.1.2.2.2.1
  obtain ⟨e1, e2, e3, e4, e5, e6, e7, e8, e9, e10⟩ := he.same
  obtain ⟨-, -, -, m1, m2, m3⟩ := he
  obtain ⟨t1, t2, t3, t4, t5, t6⟩ := hT
  have n1 : i + 1 < a_codes s (pq s) := by
    by_cases d : i + 1 < a_codes s (pq s)
    · exact d
    · rcases wf.1 d with e | e | e <;> rw [ho] at e <;> exact absurd e (by decide)
  have p1 : 0 ≤ i + 1 ∧ 1 ≤ i + 1 ∧ i + 1 - 1 = i := by
    have c6 := t4.1
    clear m1 m2 m3 t5 t6 hf hg hr e4 e5 e6 wf tf h w36
    exact ⟨by grind, by grind, by grind⟩
  have hR := hf.wait fun z1 z2 => ?_
  · exact ⟨hg, hz', hh, Or.inr (Or.inr (Or.inl ⟨ht, hR.2.2, hn⟩))⟩
  · rw [e1, e2]
    have w1 : pf s' (cu s) (tp s) = pq s := by
      rw [← e3]
      show pf s' (cu s) (tp s) = pf s' (cu s') (tp s')
      rw [e1, e2]
    refine ⟨?_, ?_⟩
    · rw [e7, e5, e3, t3]
      exact ⟨p1.1, n1⟩
    · unfold Wt
      rw [e7, e8, m1, m2, m3, w1, t3, e6]
      simp only [e4]
      refine ⟨p1.2.1, r0, Or.inl ⟨by trivial, ?_⟩⟩
      by_cases c : iC (wd s (pq s) i) = 0
      · refine Or.inl ⟨?_, ?_, ?_⟩
        · rw [c]
          decide
        · rw [p1.2.2]
        · rw [p1.2.2]
          exact Or.inl ⟨ho, c⟩
      · have nn := c36_num (iA_in (wd s (pq s) i)) (iC_in (wd s (pq s) i)) rg q1 q3 c
        refine Or.inr ⟨nn.1, nn.2.1, nn.2.2.1, nn.2.2.2.1, nn.2.2.2.2, fun u => ?_⟩
        have w2 := ((h.1.wfAt h.2.1 ⟨p1.1, n1⟩).2.2.1 u).2
        rw [p1.2.2] at w2
        rcases w2 with m | m
        · exact c m.2
        · rw [ho] at m
          exact absurd m.1 (by decide)
theorem op36_ok (s : S1) (i : Int32) (h : Ic s i) (ho : iO (wd s (pq s) i) = 36) : ok (oB (M_Mo_gather (cu s) (tp s) (iA (wd s (pq s) i)) (iB (wd s (pq s) i))) fun v65 =>
    oC (v65 = 0)
      (oR ())
      (oB (M_Mo_expect 0 (iA (wd s (pq s) i)) (iC (wd s (pq s) i) - 1)) fun _ =>
      oB (oAI 20 4300 (cu s) (bs s + iA (wd s (pq s) i))) fun v99 =>
      oB (oPI 75 0 v99) fun _ =>
      oB (oAL 21 4300 (cu s) (bs s + iA (wd s (pq s) i))) fun v111 =>
      oB (oPL 76 0 v111) fun _ =>
      oB (oPI 73 0 1) fun _ =>
      oR ())) s (fun _ s' => Out s') := by
  obtain ⟨-, -, -, -, -, -, -, -, -, -, -, -, -, -, -, -, -, w36, -⟩ := Wn.all h
  obtain ⟨q1, q2, q3⟩ := w36 ho
  obtain ⟨t1, t2, t3, t4, t5, t6, t7, t8, t9, t10, t11, -⟩ := h.1.top h.2.1.1 h.2.1.2.1
  obtain ⟨x1, x2⟩ := t11 _ (iA_in (wd s (pq s) i)).1 q1
  have x3 : 0 ≤ bs s + iA (wd s (pq s) i) ∧ bs s + iA (wd s (pq s) i) < 4300 := ⟨x1.1, Int32.lt_trans x1.2 (by decide)⟩
  simp only [ok_B, ok_C, ok_R, ok_L, ok_K, ok_GI, ok_GL, ok_PI, ok_PL, ok_AI, ok_AL, ok_SI, ok_SL, ok_Pr, ok_CI, cmp_lt, cmp_le, cmp_gt, cmp_ge, cmp_eq, nar0, nar1, Sum.elim_inl, Sum.elim_inr]
  refine ok_mono (q_gather_ok s i h (Or.inl ho)) fun r s1 ⟨g0, g1⟩ => ⟨g0, fun c => ?_⟩
  obtain ⟨i1, ga, hn, rc⟩ := g1 c
  obtain ⟨c1, c2, c3, c4, c5, c6, c7⟩ := ga.same
  have n1 := top_num i1.1 i1.2.1.1 i1.2.1.2.1
  refine ok_mono (expect_ok s1 0 (iA (wd s (pq s) i)) (iC (wd s (pq s) i) - 1) i1.1.1 n1.1 n1.2.1) fun _ s2 ⟨es, g2, ec⟩ => ⟨x3, x3, ?_⟩
  have e20 : gA s2 20 (cu s) (bs s + iA (wd s (pq s) i)) = gA s 20 (cu s) (bs s + iA (wd s (pq s) i)) := by
    rw [es]
    simp only [gI_sI, gI_sL, gI_sA, gI_sB, gI_sAf, gI_sBf, gL_sI, gL_sL, gL_sA, gL_sB, gL_sAf, gL_sBf, gA_sI, gA_sL, gA_sA, gA_sB, gA_sAf, gA_sBf, gB_sI, gB_sL, gB_sA, gB_sB, gB_sAf, gB_sBf, Nat.reduceEqDiff, Nat.reduceMul, Nat.reduceAdd, false_and, true_and, and_true, and_false, if_true, if_false]
    exact ga.2.2.1 20 _ _ (by decide) (by decide)
  have e21 : gB (sI s2 75 0 (gA s2 20 (cu s) (bs s + iA (wd s (pq s) i)))) 21 (cu s) (bs s + iA (wd s (pq s) i)) = gB s 21 (cu s) (bs s + iA (wd s (pq s) i)) := by
    rw [gB_sI, es]
    exact ga.2.2.2 21 _ _ (by decide)
  rw [e21, e20]
  have hs2 : Hs s1 s2 := by
    rw [es]
    exact (((Hw.refl s1).sA (by decide)).sA (by decide)).sA (by decide) |>.hs
  have vc : Vl false s2 (gA s 20 (cu s) (bs s + iA (wd s (pq s) i))) (gB s 21 (cu s) (bs s + iA (wd s (pq s) i))) := (Vl.hs hs2).mpr (ga.vl.mpr x2)
  have e50 : gI s2 2050 0 = 0 := by
    rw [es]
    exact i1.2.2.2
  have e898 : gI s2 898 0 ≤ 250 := by
    rw [es]
    exact hn.2
  generalize gA s 20 (cu s) (bs s + iA (wd s (pq s) i)) = ck at *
  generalize gB s 21 (cu s) (bs s + iA (wd s (pq s) i)) = cv at *
  have g4 : GG (sI (sL (sI s2 75 0 ck) 76 0 cv) 73 0 1) := (g2.calling vc).hx ((Hx0.refl _).sI (by decide))
  have ew : wd s1 (pq s1) i = wd s (pq s) i := by rw [c3, c5]
  have ec' : Ec s1 (sI (sL (sI s2 75 0 ck) 76 0 cv) 73 0 1) 0 (iA (wd s1 (pq s1) i)) (iC (wd s1 (pq s1) i) - 1) := by
    rw [ew]
    exact ec.hy (((Hy.refl s2).sI (by decide)).sL.sI (by decide))
  refine i1.call36 (by rw [ew]; exact ho) (by rw [c1, c2]; exact rc) ec' g4 ?_ ?_ ?_
  · simp only [f_todo, gI_sI, gI_sL, gI_sA, gI_sB, gI_sAf, gI_sBf, gL_sI, gL_sL, gL_sA, gL_sB, gL_sAf, gL_sBf, gA_sI, gA_sL, gA_sA, gA_sB, gA_sAf, gA_sBf, gB_sI, gB_sL, gB_sA, gB_sB, gB_sAf, gB_sBf, Nat.reduceEqDiff, Nat.reduceMul, Nat.reduceAdd, false_and, true_and, and_true, and_false, if_true, if_false]
  · simp only [v_hand_n, gI_sI, gI_sL, gI_sA, gI_sB, gI_sAf, gI_sBf, gL_sI, gL_sL, gL_sA, gL_sB, gL_sAf, gL_sBf, gA_sI, gA_sL, gA_sA, gA_sB, gA_sAf, gA_sBf, gB_sI, gB_sL, gB_sA, gB_sB, gB_sAf, gB_sBf, Nat.reduceEqDiff, Nat.reduceMul, Nat.reduceAdd, false_and, true_and, and_true, and_false, if_true, if_false]
    exact e50
  · simp only [v_args_n, gI_sI, gI_sL, gI_sA, gI_sB, gI_sAf, gI_sBf, gL_sI, gL_sL, gL_sA, gL_sB, gL_sAf, gL_sBf, gA_sI, gA_sL, gA_sA, gA_sB, gA_sAf, gA_sBf, gB_sI, gB_sL, gB_sA, gB_sB, gB_sAf, gB_sBf, Nat.reduceEqDiff, Nat.reduceMul, Nat.reduceAdd, false_and, true_and, and_true, and_false, if_true, if_false]
    exact e898
