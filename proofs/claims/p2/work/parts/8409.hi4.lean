/-! Returns; the loops' instructions. -/
theorem ret235_ok (s : S1) (i e a b : Int32) (h : Ic s i) (aa : 0 ≤ a ∧ a ≤ 255) (ea : iA (wd s (pq s) i) = a) (eb : iB (wd s (pq s) i) = b) (he : a ≤ e ∧ e ≤ 1000) (h0 : ∀ k, a ≤ k → k < e → (b ≠ 0 → 0 ≤ k ∧ k < a_registers s (pq s)) ∧ (b = 0 → (k < t_rowAt s (cu s) (tp s) → 0 ≤ k ∧ k < a_registers s (pq s)) ∧ (¬ k < t_rowAt s (cu s) (tp s) → 0 ≤ k - t_rowAt s (cu s) (tp s) ∧ k - t_rowAt s (cu s) (tp s) < t_rowCount s (cu s) (tp s)))) :
    ok (M_Mo_high_j235 (cu s) (tp s) (wd s (pq s) i) e) s (fun _ s' => Out s') := by
  have nt := top_num h.1 h.2.1.1 h.2.1.2.1
  have ag0 := zero10 h.1.1
  have e0 : gI (sI s 1282 0 0) 1282 0 = 0 := by simp only [gI_sI, gI_sL, gI_sA, gI_sB, gI_sAf, gI_sBf, gL_sI, gL_sL, gL_sA, gL_sB, gL_sAf, gL_sBf, gA_sI, gA_sL, gA_sA, gA_sB, gA_sAf, gA_sBf, gB_sI, gB_sL, gB_sA, gB_sB, gB_sAf, gB_sBf, Nat.reduceEqDiff, Nat.reduceMul, Nat.reduceAdd, false_and, true_and, and_true, and_false, if_true, if_false]
  have rx0 := ag0.rx (Or.inr (Or.inl rfl)) h.1.2.1
  have i0 := h.rx rx0 (ag0.2.1 73 0 (by decide)) (ag0.2.1 2050 0 (by decide))
  have ea' : (wd s (pq s) i >>> (6 &&& 31)) &&& 255 = a := ea
  simp only [M_Mo_high_j235, M_Mo_a, ok_B, ok_C, ok_R, ok_L, ok_K, ok_GI, ok_GL, ok_PI, ok_PL, ok_AI, ok_AL, ok_SI, ok_SL, ok_Pr, ok_CI, cmp_lt, cmp_le, cmp_gt, cmp_ge, cmp_eq, nar0, nar1, Sum.elim_inl, Sum.elim_inr, ea']
  refine ⟨fun c => ?_, fun c => ok_mono (q_raise_ok s 7) fun w s2 ⟨ew, es⟩ => ?_⟩
  · generalize sI s 1282 0 0 = z at *
    obtain ⟨d1, d2, d3, d4⟩ := rx0.same h.1 h.2.1.1 h.2.1.2.1
    have e00 : gI z 1282 0 = a - a := by rw [e0, Int32.sub_self]
    refine ok_mono (ok_W (Q := fun y s' => y = (cu s, tp s) ∧ Ag 10 z s' ∧ Ic s' i ∧ (0 ≤ gI s' 1282 0 ∧ gI s' 1282 0 ≤ 250)) (fun x s' => (x.1 = cu s ∧ x.2.1 = tp s ∧ x.2.2.1 = wd s (pq s) i ∧ x.2.2.2.1 = e) ∧ (a ≤ x.2.2.2.2 ∧ x.2.2.2.2 ≤ e) ∧ Ag 10 z s' ∧ Ic s' i ∧ gI s' 1282 0 = x.2.2.2.2 - a) (fun x _ => (e - x.2.2.2.2).toNatClampNeg) ?_ (cu s, tp s, wd s (pq s) i, e, a) z ⟨⟨rfl, rfl, rfl, rfl⟩, ⟨(show a ≤ a from Int32.le_refl _), (show a ≤ e from he.1)⟩, Ag.refl 10 i0.1.1, i0, (show gI z 1282 0 = a - a from e00)⟩) ?_
    · rintro ⟨y1, y2, y3, y4, k⟩ s1 ⟨⟨q1, q2, q3, q4⟩, ⟨k1, k2⟩, ag, i1, hn⟩
      dsimp only at q1 q2 q3 q4 k1 k2 hn
      subst q1 q2 q3 q4
      have rx1 := ag.rx (Or.inr (Or.inl rfl)) i0.1.2.1
      obtain ⟨f1, f2, f3, f4⟩ := rx1.same i0.1 i0.2.1.1 i0.2.1.2.1
      have eb' : iushr (wd s (pq s) i) 23 = b := eb
      simp only [M_Mo_high_L276, M_Mo_high_j303, M_Mo_b, ok_B, ok_C, ok_R, ok_L, ok_K, ok_GI, ok_GL, ok_PI, ok_PL, ok_AI, ok_AL, ok_SI, ok_SL, ok_Pr, ok_CI, cmp_lt, cmp_le, cmp_gt, cmp_ge, cmp_eq, nar0, nar1, Sum.elim_inl, Sum.elim_inr, eb']
      refine ⟨fun d => ⟨by trivial, ag, i1, ?_⟩, fun d => ?_⟩
      · have ek := Int32.le_antisymm k2 d
        rw [hn, ek]
        refine ⟨?_, c⟩
        clear h h0 i0 i1 ag ag0 rx0 rx1 hn ea eb ea' eb'
        grind
      · have hlt := Int32.not_le.mp d
        have nn := gath_num2 ⟨aa.1, Int32.le_trans aa.2 (by decide)⟩ ⟨Int32.le_trans (by decide) (Int32.le_trans aa.1 he.1), he.2⟩ c k1 hlt
        obtain ⟨g0, g1⟩ := h0 k k1 hlt
        have e35 : t_rowAt s1 (cu s) (tp s) = t_rowAt s (cu s) (tp s) := (ag.2.2.2.1 35 _ _ (by decide)).trans (ag0.2.2.2.1 35 _ _ (by decide))
        have e36 : t_rowCount s1 (cu s) (tp s) = t_rowCount s (cu s) (tp s) := (ag.2.2.2.1 36 _ _ (by decide)).trans (ag0.2.2.2.1 36 _ _ (by decide))
        have er : a_registers s1 (pq s) = a_registers s (pq s) := (rx1.reg _).trans (rx0.reg _)
        have go : ∀ fl, (fl = 0 → b ≠ 0) → (fl ≠ 0 → b = 0) → ok (M_Mo_addAt 10 0 (cu s) (tp s) fl k) s1 (fun _ s' => Ag 10 s1 s' ∧ gI s' (128 * 10 + 2) 0 = gI s1 (128 * 10 + 2) 0 + 1) := fun fl z1 z2 => by
          have w := addAt_ok s1 i fl k 10 (Or.inr (Or.inl rfl)) i1 (fun q => by rw [f3, d3, er]; exact g0 (z1 q)) (fun q => by rw [f1, f2, f3, d1, d2, d3, er, e35, e36]; exact g1 (z2 q)) (by simp only [Nat.reduceMul, Nat.reduceAdd]; rw [hn]; exact nn.2.2.2.1)
          rw [f1, f2, d1, d2] at w
          exact w
        have fin : ∀ s2, (Ag 10 s1 s2 ∧ gI s2 (128 * 10 + 2) 0 = gI s1 (128 * 10 + 2) 0 + 1) → (((True ∧ True ∧ True ∧ True) ∧ (a ≤ k + 1 ∧ k + 1 ≤ y4) ∧ Ag 10 z s2 ∧ Ic s2 i ∧ gI s2 1282 0 = k + 1 - a) ∧ (y4 - (k + 1)).toNatClampNeg < (y4 - k).toNatClampNeg) := fun s2 ⟨ag2, n2⟩ => by
          simp only [Nat.reduceMul, Nat.reduceAdd] at n2
          refine ⟨⟨⟨trivial, trivial, trivial, trivial⟩, ⟨nn.1, nn.2.1⟩, ag.trans ag2, i1.rx (ag2.rx (Or.inr (Or.inl rfl)) i1.1.2.1) (ag2.2.1 73 0 (by decide)) (ag2.2.1 2050 0 (by decide)), ?_⟩, nn.2.2.2.2.1⟩
          rw [n2, hn, nn.2.2.1]
        exact ⟨fun q => ok_mono (go 1 (fun w => absurd w (by decide)) (fun _ => q)) fun _ s2 w => fin s2 w, fun q => ok_mono (go 0 (fun _ => q) (fun w => absurd rfl w)) fun _ s2 w => fin s2 w⟩
    · rintro y s1 ⟨ey, ag, i1, hn⟩
      subst ey
      have rx1 := ag.rx (Or.inr (Or.inl rfl)) i0.1.2.1
      obtain ⟨f1, f2, f3, f4⟩ := rx1.same i0.1 i0.2.1.1 i0.2.1.2.1
      obtain ⟨i2, r2⟩ := i1.drop
      rw [f1, f2, d1, d2] at i2 r2
      have n2 : v_results_n (sA s1 36 (cu s) (tp s) 0) ≤ 250 := hn.2
      have ec : cu (sA s1 36 (cu s) (tp s) 0) = cu s := f1.trans d1
      dsimp only
      refine ⟨nt.2.2, nt.2.2, ?_⟩
      generalize sA s1 36 (cu s) (tp s) 0 = s2 at *
      have nn := top_num i2.1 i2.2.1.1 i2.2.1.2.1
      have w := q_close_ok s2 (cu s2) (gA s2 33 (cu s) (tp s)) i2.1.1 nn.1 i2.alive
      rw [ec] at w
      refine ok_mono w fun _ s3 cw => ?_
      rw [← ec] at cw
      obtain ⟨i3, rx3⟩ := i2.cw cw
      obtain ⟨g1, g2, g3, g4⟩ := rx3.same i2.1 i2.2.1.1 i2.2.1.2.1
      have e3 : cu s3 = cu s := g1.trans ec
      have fin := i3.pop (d := 2) (Or.inr ⟨rfl, by
        have e : v_results_n s3 = v_results_n s2 := cw.I 1282 (by decide) 0
        rw [e]
        exact n2⟩)
      rw [e3] at fin
      have et : tp s3 = gI s3 3586 (cu s) - 1 := by
        show gI s3 3586 (cu s3) - 1 = _
        rw [e3]
      rw [et] at fin
      exact fin
  · subst es
    exact h.raise 7 _ (by decide)
theorem ret_num {a b r : Int32} (ha : 0 ≤ a ∧ a ≤ 255) (hb : 0 ≤ b ∧ b ≤ 511) (c : ¬ b ≤ 0) (h : ¬ b < 2 → a + b - 2 < r) (hr : r < 251) : a ≤ a + b - 1 ∧ a + b - 1 ≤ 1000 ∧ ∀ k, a ≤ k → k < a + b - 1 → 0 ≤ k ∧ k < r := by
  have k0 : (0 : Int32).toInt = 0 := rfl
  have k1 : (1 : Int32).toInt = 1 := rfl
  have k2 : (2 : Int32).toInt = 2 := rfl
  have k3 : (1000 : Int32).toInt = 1000 := rfl
  have k5 : (255 : Int32).toInt = 255 := rfl
  have k6 : (511 : Int32).toInt = 511 := rfl
  have kr : (251 : Int32).toInt = 251 := rfl
  simp only [i32_le, i32_lt, k0, k2, k3, k5, k6, kr] at ha hb hr c h ⊢
  have y1 := tI_add (a := a) (b := b) (by omega)
  have y2 := tI_sub (a := a + b) (b := 2) (by rw [k2]; omega)
  have y3 := tI_sub (a := a + b) (b := 1) (by rw [k1]; omega)
  rw [y2, y1, k2] at h
  rw [y3, y1, k1]
  refine ⟨by omega, by omega, fun k p q => ⟨by omega, by omega⟩⟩
theorem op38_ok (s : S1) (i : Int32) (h : Ic s i) (ho : iO (wd s (pq s) i) = 38) : ok (oC (iB (wd s (pq s) i) ≤ 0)
      (oB (oAI 35 201 (cu s) (tp s)) fun v227 =>
      oB (oAI 36 201 (cu s) (tp s)) fun v233 =>
      M_Mo_high_j235 (cu s) (tp s) (wd s (pq s) i) (v227 + v233))
      (M_Mo_high_j235 (cu s) (tp s) (wd s (pq s) i) ((iA (wd s (pq s) i) + iB (wd s (pq s) i)) - 1))) s (fun _ s' => Out s') := by
  have nt := top_num h.1 h.2.1.1 h.2.1.2.1
  obtain ⟨t1, t2, t3, t4, t5, t6, t7, t8, t9, t10, -⟩ := h.1.top h.2.1.1 h.2.1.2.1
  have aa := iA_in (wd s (pq s) i)
  have bb := iB_in (wd s (pq s) i)
  obtain ⟨-, -, -, -, -, -, -, -, -, -, -, -, -, -, -, -, -, -, -, w38, -⟩ := Wn.all h
  obtain ⟨q1, q2⟩ := w38 ho
  have hr := t7.2.1.2
  simp only [ok_B, ok_C, ok_R, ok_L, ok_K, ok_GI, ok_GL, ok_PI, ok_PL, ok_AI, ok_AL, ok_SI, ok_SL, ok_Pr, ok_CI, cmp_lt, cmp_le, cmp_gt, cmp_ge, cmp_eq, nar0, nar1, Sum.elim_inl, Sum.elim_inr]
  refine ⟨fun c => ⟨nt.2.2, nt.2.2, ?_⟩, fun c => ?_⟩
  · have b0 : iB (wd s (pq s) i) = 0 := Int32.le_antisymm c bb.1
    obtain ⟨p1, -, p3⟩ := open_in h ⟨Or.inr (Or.inr (Or.inl ho)), b0⟩
    have p4 := p1 ho
    have nn : iA (wd s (pq s) i) ≤ gA s 35 (cu s) (tp s) + gA s 36 (cu s) (tp s) ∧ gA s 35 (cu s) (tp s) + gA s 36 (cu s) (tp s) ≤ 1000 := by
      simp only [t_rowAt, t_rowCount] at p3 p4 t10
      clear h w38 q1 q2 t7 t8 t9 t4 t5 t6 c b0 bb
      generalize iA (wd s (pq s) i) = a at *
      generalize a_registers s (pq s) = r at *
      generalize gA s 35 (cu s) (tp s) = R at *
      generalize gA s 36 (cu s) (tp s) = C at *
      exact ⟨by grind, by grind⟩
    exact ret235_ok s i _ _ _ h aa rfl rfl nn fun k k1 k2 => ⟨fun q => absurd b0 q, fun _ => gath_num aa p3 hr t10 rfl k1 k2⟩
  · have nn := ret_num aa bb c q2 hr
    exact ret235_ok s i _ _ _ h aa rfl rfl ⟨nn.1, nn.2.1⟩ fun k k1 k2 => ⟨fun _ => nn.2.2 k k1 k2, fun q => absurd (by rw [q]; decide) c⟩
