/-! Results are taken by the function that waits for them. -/
def Tk (s : S1) : Prop := RI true s ∧ v_hand_n s = 0 ∧ f_todo s = 0 ∧ 0 ≤ tp s ∧ t_kind s (cu s) (tp s) = 0
theorem Tk.lt {s : S1} (h : Tk s) : tp s < t_frames s (cu s) := by
  obtain ⟨hr, -, -, h0, -⟩ := h
  have hc := hr.2.2.2.2.1.1
  have hpl : 0 ≤ t_place s (cu s) := hr.2.2.2.2.1.2.2.2.2.2.2.2.2.1 0 hc.1
  obtain ⟨⟨-, q2, -⟩, -⟩ := hr.1.thr hc hpl
  exact (tp_num q2 h0).1
theorem Tk.wt {s : S1} (h : Tk s) : (0 ≤ t_pc s (cu s) (tp s) ∧ t_pc s (cu s) (tp s) < a_codes s (pq s)) ∧ Wt s (cu s) (tp s) := by
  have lt := h.lt
  obtain ⟨hr, -, -, h0, hk⟩ := h
  have hc := hr.2.2.2.2.1.1
  have hpl : 0 ≤ t_place s (cu s) := hr.2.2.2.2.1.2.2.2.2.2.2.2.2.1 0 hc.1
  have fi := hr.2.2.2.2.2 (cu s) hc.1 hc.2 hpl (tp s) h0 lt
  exact (fi.2 hk).2 (Or.inr (Or.inr rfl))
theorem Run.sk {s s' : S1} (h : Run s) (k : Sk s s') : Run s' := by
  refine h.of (k.2.1 72 0) ?_ (fun a q i j => k.2.2.2.1 a i j (by rcases q with w | w | w | w | w | w | w | w | w <;> rw [w] <;> decide))
  show gI s' 3586 (gI s' 72 0) - 1 = gI s 3586 (gI s 72 0) - 1
  rw [k.2.1, k.2.1]
theorem Tk.run {s : S1} (h : Tk s) (hu : ¬ us (wd s (pq s) (t_pc s (cu s) (tp s)))) : Run s := ⟨h.2.2.2.1, h.2.2.2.2, h.wt.1, fun w => absurd h.wt.2.2.1 w, fun w => absurd w hu⟩
theorem fin350 {s : S1} (h : RI false s) (hh : v_hand_n s = 0) (htd : f_todo s = 0) (hr : Run s) : ok M_Mo_taken_j350 s (fun _ s' => Out s' ∧ f_todo s' = 0) := by
  simp only [M_Mo_taken_j350, ok_B, ok_C, ok_R, ok_L, ok_K, ok_GI, ok_GL, ok_PI, ok_PL, ok_AI, ok_AL, ok_SI, ok_SL, ok_Pr, ok_CI, cmp_lt, cmp_le, cmp_gt, cmp_ge, cmp_eq, nar0, nar1, Sum.elim_inl, Sum.elim_inr]
  have ag := zero10 h.1
  have rx := ag.rx (Or.inr (Or.inl rfl)) h.2.1
  have r1 := h.rx rx
  have ec : cu (sI s 1282 0 0) = cu s := ag.2.1 72 0 (by decide)
  have e0 : f_todo (sI s 1282 0 0) = 0 := (ag.2.1 73 0 (by decide)).trans htd
  refine ⟨⟨r1.1, r1.2.1, (ag.2.1 2050 0 (by decide)).trans hh, Or.inl ⟨e0, r1.2.2, hr.of ec ?_ (fun a q i j => rfl)⟩⟩, e0⟩
  show gI (sI s 1282 0 0) 3586 (cu (sI s 1282 0 0)) - 1 = gI s 3586 (cu s) - 1
  rw [ec, ag.2.1 3586 _ (by decide)]
theorem fin350k {s s' : S1} (h : Tk s) (hr : Run s) (k : Sk s s') : ok M_Mo_taken_j350 s' (fun _ s' => Out s' ∧ f_todo s' = 0) := fin350 (h.1.rx (k.rx h.1.2.1)).weak ((k.2.1 2050 0).trans h.2.1) ((k.2.1 73 0).trans h.2.2.1) (hr.sk k)
theorem tw_num {a w i r : Int32} (ha : 0 ≤ a ∧ a ≤ 300) (hw : 0 ≤ w ∧ w ≤ 600) (h : a + w ≤ r) (hr : r < 251) (i0 : 0 ≤ i) (c : ¬ w ≤ i) : (0 ≤ a + i ∧ a + i < r) ∧ 0 ≤ i + 1 ∧ (w - (i + 1)).toNatClampNeg < (w - i).toNatClampNeg := by
  have c0 : (0 : Int32).toInt = 0 := rfl
  have c1 : (1 : Int32).toInt = 1 := rfl
  have c3 : (300 : Int32).toInt = 300 := rfl
  have c6 : (600 : Int32).toInt = 600 := rfl
  have c' := Int32.not_le.mp c
  simp only [i32_le, i32_lt, c0, c3, c6] at *
  have y1 := tI_add (a := a) (b := w) (by omega)
  have y2 := tI_add (a := a) (b := i) (by omega)
  have y3 := tI_add (a := i) (b := 1) (by omega)
  have y5 := tI_sub (a := w) (b := i + 1) (by omega)
  have y6 := tI_sub (a := w) (b := i) (by omega)
  refine ⟨by omega, by omega, ?_⟩
  unfold Int32.toNatClampNeg
  omega
theorem Sk.cell {s z z' : S1} {t i k : Int32} {w : Int64} (h : Sk s z) (g : GG z') (e : z' = sB (sA z 20 t i k) 21 t i w) : Sk s z' := by
  refine ⟨g, fun f j => ?_, fun f j => ?_, fun a u j q => ?_, fun a u j q => ?_⟩
  · rw [e]
    exact h.2.1 f j
  · rw [e]
    exact h.2.2.1 f j
  · rw [e, gA_sB, gA_sA, if_neg (fun x => q x.1)]
    exact h.2.2.2.1 a u j q
  · rw [e, gB_sB, if_neg (fun x => q x.1), gB_sA]
    exact h.2.2.2.2 a u j q
theorem tk178_ok (s : S1) (h : Tk s) (hw : 0 ≤ t_want s (cu s) (tp s) ∧ 0 ≤ t_into s (cu s) (tp s) ∧ t_into s (cu s) (tp s) ≤ 300 ∧ t_want s (cu s) (tp s) ≤ 600 ∧ t_into s (cu s) (tp s) + t_want s (cu s) (tp s) ≤ a_registers s (pq s)) : ok (oW M_Mo_taken_L178 (cu s, tp s, bs s, 0)) s (fun _ s' => Sk s s') := by
  have n := top_num h.1 h.2.2.2.1 h.2.2.2.2
  obtain ⟨t1, t2, t3, t4, t5, t6, t7, t8, t9, t10, t11, -⟩ := h.1.top h.2.2.2.1 h.2.2.2.2
  refine ok_W (fun y z => (y.1 = cu s ∧ y.2.1 = tp s ∧ y.2.2.1 = bs s) ∧ 0 ≤ y.2.2.2 ∧ Sk s z) (fun y _ => (t_want s (cu s) (tp s) - y.2.2.2).toNatClampNeg) ?_ (cu s, tp s, bs s, 0) s ⟨⟨rfl, rfl, rfl⟩, (show (0 : Int32) ≤ 0 by decide), Sk.refl h.1.1⟩
  rintro ⟨y1, y2, y3, i⟩ z ⟨⟨e1, e2, e3⟩, i0, sk⟩
  dsimp only at e1 e2 e3 i0
  rw [e1, e2, e3]
  have e39 : gA z 39 (cu s) (tp s) = t_want s (cu s) (tp s) := sk.2.2.2.1 39 _ _ (by decide)
  have e38 : gA z 38 (cu s) (tp s) = t_into s (cu s) (tp s) := sk.2.2.2.1 38 _ _ (by decide)
  simp only [M_Mo_taken_L178, M_Mo_taken_j248, ok_B, ok_C, ok_R, ok_L, ok_K, ok_GI, ok_GL, ok_PI, ok_PL, ok_AI, ok_AL, ok_SI, ok_SL, ok_Pr, ok_CI, cmp_lt, cmp_le, cmp_gt, cmp_ge, cmp_eq, nar0, nar1, Sum.elim_inl, Sum.elim_inr]
  rw [e39, e38]
  refine ⟨n.2.2, fun _ => sk, fun c => ?_⟩
  obtain ⟨m1, m2, m3⟩ := tw_num ⟨hw.2.1, hw.2.2.1⟩ ⟨hw.1, hw.2.2.2.1⟩ hw.2.2.2.2 t7.2.1.2 i0 c
  obtain ⟨x1, -⟩ := t11 _ m1.1 m1.2
  have ea : bs s + t_into s (cu s) (tp s) + i = bs s + (t_into s (cu s) (tp s) + i) := Int32.add_assoc _ _ _
  rw [ea]
  have x3 : 0 ≤ bs s + (t_into s (cu s) (tp s) + i) ∧ bs s + (t_into s (cu s) (tp s) + i) < 4300 := ⟨x1.1, Int32.lt_trans x1.2 (by decide)⟩
  have nz : f_noCollection z = 0 := (sk.2.1 92 0).trans h.1.2.1
  refine ⟨fun _ => ⟨n.2.2, ?_⟩, fun c2 => ⟨n.2.2, ?_⟩⟩
  · refine ok_mono (setS_rx z (cu s) _ 0 0 sk.1 nz x3 (Or.inl ⟨by decide, by decide⟩)) fun _ z' ⟨ez, rx⟩ => ⟨⟨⟨by trivial, by trivial, by trivial⟩, m2, sk.cell rx.1 ez⟩, m3⟩
  · have lt := Int32.not_le.mp c2
    have i4 : i < 400 := Int32.lt_of_lt_of_le lt sk.1.2.2.2.1.2.2.1.2
    refine ok_mono (setSS_rx z (cu s) _ 0 i 10 sk.1 nz x3 ⟨i0, i4, i4⟩ (sk.1.2.2.2.1.2.2.2.2.2.2.1 i i0 lt)) fun _ z' ⟨ez, rx⟩ => ⟨⟨⟨by trivial, by trivial, by trivial⟩, m2, sk.cell rx.1 ez⟩, m3⟩
/-- the open row grows -/
def Ro (s z : S1) (i : Int32) : Prop := Rx s z ∧ Rq2 s z (cu s) ∧ v_row_n z (cu s) = i ∧ ∀ q, 0 ≤ q → q < i → Vl false s (v_row_k z (cu s) q) (v_row_v z (cu s) q)
theorem row1_num {i n : Int32} (hn : n ≤ 250) (i0 : 0 ≤ i) (c : ¬ n ≤ i) : (0 ≤ i + 1 ∧ i + 1 ≤ n) ∧ (0 ≤ i ∧ i < 260) ∧ i < 400 ∧ i < n ∧ (n - (i + 1)).toNatClampNeg < (n - i).toNatClampNeg ∧ ∀ q, q < i + 1 → q = i ∨ (q ≠ i ∧ q < i) := by
  refine ⟨⟨by grind, by grind⟩, ⟨i0, by grind⟩, by grind, by grind, clamp_lt (by grind) (by grind), fun q a => by grind⟩
theorem tk116_ok (s : S1) (h : Tk s) (hr : gI s 1282 0 ≤ 250) (h0 : v_row_n s (cu s) = 0) : ok (oW M_Mo_taken_L116 (cu s, tp s, 0)) s (fun y z => y = (cu s, tp s) ∧ Ro s z (gI s 1282 0)) := by
  have n := top_num h.1 h.2.2.2.1 h.2.2.2.2
  have hpl : 0 ≤ t_place s (cu s) := h.1.2.2.2.2.1.2.2.2.2.2.2.2.2.1 0 n.1.1
  have rc := h.wt.2.2.1
  have hn0 : 0 ≤ gI s 1282 0 := h.1.1.2.2.2.1.2.2.1.1
  refine ok_W (fun y z => (y.1 = cu s ∧ y.2.1 = tp s) ∧ (0 ≤ y.2.2 ∧ y.2.2 ≤ gI s 1282 0) ∧ Ro s z y.2.2) (fun y _ => (gI s 1282 0 - y.2.2).toNatClampNeg) ?_ (cu s, tp s, 0) s ⟨⟨rfl, rfl⟩, ⟨(show (0 : Int32) ≤ 0 by decide), hn0⟩, Rx.refl h.1.1 h.1.2.1, ⟨fun _ _ _ => rfl, fun _ _ => rfl, fun _ _ _ _ => rfl, fun _ _ _ _ => rfl⟩, h0, fun q a b => absurd (Int32.lt_of_le_of_lt a b) Int32.lt_irrefl⟩
  rintro ⟨y1, y2, i⟩ z ⟨⟨e1, e2⟩, ⟨i0, i1⟩, rx, rq, en, hv⟩
  dsimp only at e1 e2 i0 i1 en hv
  rw [e1, e2]
  have er : gI z 1282 0 = gI s 1282 0 := rq.1 1282 0 (by decide)
  simp only [M_Mo_taken_L116, ok_B, ok_C, ok_R, ok_L, ok_K, ok_GI, ok_GL, ok_PI, ok_PL, ok_AI, ok_AL, ok_SI, ok_SL, ok_Pr, ok_CI, cmp_lt, cmp_le, cmp_gt, cmp_ge, cmp_eq, nar0, nar1, Sum.elim_inl, Sum.elim_inr]
  rw [er]
  refine ⟨fun c => ⟨by trivial, rx, rq, en.trans (Int32.le_antisymm i1 c), fun q a b => hv q a (by rw [Int32.le_antisymm i1 c]; exact b)⟩, fun c => ?_⟩
  obtain ⟨m1, m2, m3, m4, m5, m6⟩ := row1_num hr i0 c
  have vl : Vl false z (gA z 11 0 i) (gB z 12 0 i) := rx.1.2.2.2.1.2.2.2.2.2.2.1 i i0 (by show i < gI z 1282 0; rw [er]; exact m4)
  have efr : t_frames z (cu s) = t_frames s (cu s) := rq.1 3586 _ (by decide)
  have epl : t_place z (cu s) = t_place s (cu s) := rq.1 3584 _ (by decide)
  have th := rowPut_th (s := z) (t := cu s) (n := i) (m := i + 1) (k := gA z 11 0 i) (v := gB z 12 0 i) rx.1 n.1 (by rw [epl]; exact hpl) (fun _ _ => by
    rw [efr]
    exact (rq.2.2.1 36 _ _ (by decide)).trans rc)
  have g := rx.1.th th
  have e22 : gI z 2818 (cu s) = i := en
  simp only [M_Va_add_, M_Va_add, ok_B, ok_C, ok_R, ok_L, ok_K, ok_GI, ok_GL, ok_PI, ok_PL, ok_AI, ok_AL, ok_SI, ok_SL, ok_Pr, ok_CI, cmp_lt, cmp_le, cmp_gt, cmp_ge, cmp_eq, nar0, nar1, Sum.elim_inl, Sum.elim_inr, i8_id vl.kind, Nat.reduceMul, Nat.reduceAdd]
  simp only [gI_sI, gI_sL, gI_sA, gI_sB, gI_sAf, gI_sBf, gL_sI, gL_sL, gL_sA, gL_sB, gL_sAf, gL_sBf, gA_sI, gA_sL, gA_sA, gA_sB, gA_sAf, gA_sBf, gB_sI, gB_sL, gB_sA, gB_sB, gB_sAf, gB_sBf, Nat.reduceEqDiff, Nat.reduceMul, Nat.reduceAdd, false_and, true_and, and_true, and_false, if_true, if_false]
  rw [e22]
  have rq' : Rq2 z (sB (sI (sA z 23 (cu s) i (gA z 11 0 i)) 2818 (cu s) (i + 1)) 24 (cu s) i (gB z 12 0 i)) (cu s) := by
    refine ⟨fun f u q => ?_, fun _ _ => rfl, fun a u w q => ?_, fun a u w q => ?_⟩
    · simp only [gI_sI, gI_sL, gI_sA, gI_sB, gI_sAf, gI_sBf, gL_sI, gL_sL, gL_sA, gL_sB, gL_sAf, gL_sBf, gA_sI, gA_sL, gA_sA, gA_sB, gA_sAf, gA_sBf, gB_sI, gB_sL, gB_sA, gB_sB, gB_sAf, gB_sBf, Nat.reduceEqDiff, Nat.reduceMul, Nat.reduceAdd, false_and, true_and, and_true, and_false, if_true, if_false, q]
    · simp only [gI_sI, gI_sL, gI_sA, gI_sB, gI_sAf, gI_sBf, gL_sI, gL_sL, gL_sA, gL_sB, gL_sAf, gL_sBf, gA_sI, gA_sL, gA_sA, gA_sB, gA_sAf, gA_sBf, gB_sI, gB_sL, gB_sA, gB_sB, gB_sAf, gB_sBf, Nat.reduceEqDiff, Nat.reduceMul, Nat.reduceAdd, false_and, true_and, and_true, and_false, if_true, if_false, q]
    · simp only [gI_sI, gI_sL, gI_sA, gI_sB, gI_sAf, gI_sBf, gL_sI, gL_sL, gL_sA, gL_sB, gL_sAf, gL_sBf, gA_sI, gA_sL, gA_sA, gA_sB, gA_sAf, gA_sBf, gB_sI, gB_sL, gB_sA, gB_sB, gB_sAf, gB_sBf, Nat.reduceEqDiff, Nat.reduceMul, Nat.reduceAdd, false_and, true_and, and_true, and_false, if_true, if_false, q]
  have rx' := Rx.hy g rq'.hy rx.2.1
  have n' : v_row_n (sB (sI (sA z 23 (cu s) i (gA z 11 0 i)) 2818 (cu s) (i + 1)) 24 (cu s) i (gB z 12 0 i)) (cu s) = i + 1 := by simp only [v_row_n, gI_sI, gI_sL, gI_sA, gI_sB, gI_sAf, gI_sBf, gL_sI, gL_sL, gL_sA, gL_sB, gL_sAf, gL_sBf, gA_sI, gA_sL, gA_sA, gA_sB, gA_sAf, gA_sBf, gB_sI, gB_sL, gB_sA, gB_sB, gB_sAf, gB_sBf, Nat.reduceEqDiff, Nat.reduceMul, Nat.reduceAdd, false_and, true_and, and_true, and_false, if_true, if_false]
  refine ⟨⟨i0, m3⟩, ⟨i0, m3⟩, m2, m2, ⟨m1, rx.trans rx', ⟨fun f u q => (rq'.1 f u q).trans (rq.1 f u q), fun f u => (rq'.2.1 f u).trans (rq.2.1 f u), fun a u w q => (rq'.2.2.1 a u w q).trans (rq.2.2.1 a u w q), fun a u w q => (rq'.2.2.2 a u w q).trans (rq.2.2.2 a u w q)⟩, n', fun q a b => ?_⟩, m5⟩
  rcases m6 q b with w | ⟨w, w2⟩
  · rw [w]
    simp only [v_row_k, v_row_v, gI_sI, gI_sL, gI_sA, gI_sB, gI_sAf, gI_sBf, gL_sI, gL_sL, gL_sA, gL_sB, gL_sAf, gL_sBf, gA_sI, gA_sL, gA_sA, gA_sB, gA_sAf, gA_sBf, gB_sI, gB_sL, gB_sA, gB_sB, gB_sAf, gB_sBf, Nat.reduceEqDiff, Nat.reduceMul, Nat.reduceAdd, false_and, true_and, and_true, and_false, if_true, if_false]
    exact rq.lv.mp vl
  · simp only [v_row_k, v_row_v, gI_sI, gI_sL, gI_sA, gI_sB, gI_sAf, gI_sBf, gL_sI, gL_sL, gL_sA, gL_sB, gL_sAf, gL_sBf, gA_sI, gA_sL, gA_sA, gA_sB, gA_sAf, gA_sBf, gB_sI, gB_sL, gB_sA, gB_sB, gB_sAf, gB_sBf, Nat.reduceEqDiff, Nat.reduceMul, Nat.reduceAdd, false_and, true_and, and_true, and_false, if_true, if_false, w]
    exact hv q a w2
