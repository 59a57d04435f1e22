/-! Lists, and what else was handed over. -/
theorem Ic.done0 {s : S1} {i : Int32} (h : RI false s) (hT : Tf s i) (hh : v_hand_n s = 0) (ht : f_todo s = 0 ∨ f_todo s = 3 ∨ f_todo s = 4) (r0 : t_rowCount s (cu s) (tp s) = 0) (hm : ¬ mks (wd s (pq s) i)) (ho : iO (wd s (pq s) i) ≠ 30 ∧ iO (wd s (pq s) i) ≠ 37 ∧ iO (wd s (pq s) i) ≠ 38) : Out s := by
  rcases ht with ht | ht
  · obtain ⟨n1, n2⟩ := hT.next h hm ho
    obtain ⟨t1, t2, t3, t4, t5, t6⟩ := hT
    refine ⟨h.1, h.2.1, hh, Or.inl ⟨ht, h.2.2, t1, t2, ?_, fun z => absurd r0 z, fun z => ?_⟩⟩
    · rw [t3]
      exact n1
    · rw [t3] at z
      exact absurd z n2
  · exact ⟨h.1, h.2.1, hh, Or.inr (Or.inl ⟨ht, h.2.2⟩)⟩
/-- an instruction at i, at work; an error may have come -/
def Id (s : S1) (i : Int32) : Prop := RI false s ∧ Tf s i ∧ v_hand_n s = 0 ∧ (f_todo s = 0 ∨ f_todo s = 3 ∨ f_todo s = 4)
theorem Id.drop {s : S1} {i : Int32} (h : Id s i) : Id (sA s 36 (cu s) (tp s) 0) i ∧ t_rowCount (sA s 36 (cu s) (tp s) 0) (cu s) (tp s) = 0 ∧ pq (sA s 36 (cu s) (tp s) 0) = pq s ∧ (∀ p q, wd (sA s 36 (cu s) (tp s) 0) p q = wd s p q) := by
  have n := top_num h.1 h.2.1.1 h.2.1.2.1
  have hpl : 0 ≤ t_place s (cu s) := h.1.2.2.2.2.1.2.2.2.2.2.2.2.2.1 0 h.1.2.2.2.2.1.1.1
  have g := h.1.1.th (drop_th (f := tp s) h.1.1 n.1 hpl)
  obtain ⟨t1, t2, t3, t4, t5, t6⟩ := h.2.1
  have e : t_rowCount (sA s 36 (cu s) (tp s) 0) (cu s) (tp s) = 0 := by simp only [t_rowCount, gI_sI, gI_sL, gI_sA, gI_sB, gI_sAf, gI_sBf, gL_sI, gL_sL, gL_sA, gL_sB, gL_sAf, gL_sBf, gA_sI, gA_sL, gA_sA, gA_sB, gA_sAf, gA_sBf, gB_sI, gB_sL, gB_sA, gB_sB, gB_sAf, gB_sBf, Nat.reduceEqDiff, Nat.reduceMul, Nat.reduceAdd, false_and, true_and, and_true, and_false, if_true, if_false]
  have e3 : pq (sA s 36 (cu s) (tp s) 0) = pq s := by
    show gA s 62 0 (gA (sA s 36 (cu s) (tp s) 0) 31 (cu s) (tp s)) = gA s 62 0 (gA s 31 (cu s) (tp s))
    rw [gA_sA, if_neg (fun z => absurd z.1 (by decide))]
  have e5 : ∀ p q, wd (sA s 36 (cu s) (tp s) 0) p q = wd s p q := fun p q => by simp only [wd, a_code, a_codeAt, gI_sI, gI_sL, gI_sA, gI_sB, gI_sAf, gI_sBf, gL_sI, gL_sL, gL_sA, gL_sB, gL_sAf, gL_sBf, gA_sI, gA_sL, gA_sA, gA_sB, gA_sAf, gA_sBf, gB_sI, gB_sL, gB_sA, gB_sB, gB_sAf, gB_sBf, Nat.reduceEqDiff, Nat.reduceMul, Nat.reduceAdd, false_and, true_and, and_true, and_false, if_true, if_false]
  refine ⟨⟨⟨g, h.1.2.1, h.1.2.2.topz ⟨fun _ _ _ => rfl, fun a u v q p => ?_, fun _ _ => rfl⟩⟩, ?_, h.2.2.1, h.2.2.2⟩, e, e3, e5⟩
  · rw [gA_sA, if_neg]
    rintro ⟨e1, e2, e3⟩
    rcases p with p | p
    · exact p.2.2.1 e1
    · exact p ⟨e2, e3⟩
  · unfold Tf
    have e1 : cu (sA s 36 (cu s) (tp s) 0) = cu s := rfl
    have e2 : tp (sA s 36 (cu s) (tp s) 0) = tp s := rfl
    rw [e1, e2, e3, e]
    simp only [e5]
    simp only [t_kind, t_pc, t_rowAt, a_codes, gI_sI, gI_sL, gI_sA, gI_sB, gI_sAf, gI_sBf, gL_sI, gL_sL, gL_sA, gL_sB, gL_sAf, gL_sBf, gA_sI, gA_sL, gA_sA, gA_sB, gA_sAf, gA_sBf, gB_sI, gB_sL, gB_sA, gB_sB, gB_sAf, gB_sBf, Nat.reduceEqDiff, Nat.reduceMul, Nat.reduceAdd, false_and, true_and, and_true, and_false, if_true, if_false] at *
    exact ⟨t1, t2, t3, t4, fun z => absurd rfl z, t6⟩
theorem list_num {a n k R C r b : Int32} (ha : 0 ≤ a ∧ a ≤ 255) (hr : r < 251) (hC : 0 ≤ C ∧ C ≤ 260) (k1 : 1 ≤ k) (k2 : ¬ n < k) (hb : 0 ≤ b ∧ b ≤ 511) (hn : (b = 0 ∧ n = R + C - a - 1 ∧ a + 1 ≤ R ∧ 0 ≤ R ∧ R < r) ∨ (b ≠ 0 ∧ n = b ∧ a + b < r)) :
    ((b = 0 → ¬ a + k < R → 0 ≤ a + k - R ∧ a + k - R < C) ∧ (b = 0 → a + k < R → 0 ≤ a + k ∧ a + k < r) ∧ (b ≠ 0 → 0 ≤ a + k ∧ a + k < r)) ∧ 1 ≤ k + 1 ∧ (n + 1 - (k + 1)).toNatClampNeg < (n + 1 - k).toNatClampNeg := by
  have k0 : (0 : Int32).toInt = 0 := rfl
  have kk1 : (1 : Int32).toInt = 1 := rfl
  have k5 : (255 : Int32).toInt = 255 := rfl
  have k6 : (511 : Int32).toInt = 511 := rfl
  have k7 : (260 : Int32).toInt = 260 := rfl
  have kr : (251 : Int32).toInt = 251 := rfl
  have nb : 0 ≤ n.toInt ∧ n.toInt ≤ 600 := by
    simp only [i32_le, i32_lt, k0, kk1, k5, k6, k7, kr] at ha hr hC k1 k2 hb
    rcases hn with ⟨e1, e2, e3, e4, e5⟩ | ⟨e1, e2, e3⟩
    · simp only [i32_le, i32_lt, k0] at e3 e4 e5
      have y1 := tI_add (a := R) (b := C) (by omega)
      have y2 := tI_sub (a := R + C) (b := a) (by omega)
      have y3 := tI_sub (a := R + C - a) (b := 1) (by rw [kk1]; omega)
      rw [e2, y3, y2, y1, kk1]
      rw [e2, y3, y2, y1, kk1] at k2
      omega
    · rw [e2]
      omega
  have hk : 1 ≤ k.toInt ∧ k.toInt ≤ n.toInt := by
    simp only [i32_le, i32_lt, kk1] at k1 k2
    omega
  refine ⟨⟨fun c d => ?_, fun c d => ?_, fun c => ?_⟩, ?_, ?_⟩
  · rcases hn with ⟨e1, e2, e3, e4, e5⟩ | ⟨e1, e2, e3⟩
    · simp only [i32_le, i32_lt, k0, kk1, k5, k6, k7, kr] at *
      have y1 := tI_add (a := R) (b := C) (by omega)
      have y2 := tI_sub (a := R + C) (b := a) (by omega)
      have y3 := tI_sub (a := R + C - a) (b := 1) (by rw [show (1 : Int32).toInt = 1 from rfl]; omega)
      rw [e2, y3, y2, y1, show (1 : Int32).toInt = 1 from rfl] at hk
      have y4 := tI_add (a := a) (b := k) (by omega)
      have y5 := tI_sub (a := a + k) (b := R) (by omega)
      omega
    · exact absurd c e1
  · rcases hn with ⟨e1, e2, e3, e4, e5⟩ | ⟨e1, e2, e3⟩
    · simp only [i32_le, i32_lt, k0, kk1, k5, k6, k7, kr] at *
      have y4 := tI_add (a := a) (b := k) (by omega)
      omega
    · exact absurd c e1
  · rcases hn with ⟨e1, e2, e3, e4, e5⟩ | ⟨e1, e2, e3⟩
    · exact absurd e1 c
    · rw [e2] at hk
      simp only [i32_le, i32_lt, k0, kk1, k5, k6, k7, kr] at *
      have y4 := tI_add (a := a) (b := k) (by omega)
      have y5 := tI_add (a := a) (b := b) (by omega)
      omega
  · have y := tI_add (a := k) (b := 1) (by rw [kk1]; omega)
    rw [i32_le, y, kk1]
    omega
  · have y := tI_add (a := k) (b := 1) (by rw [kk1]; omega)
    have y2 := tI_add (a := n) (b := 1) (by rw [kk1]; omega)
    have y3 := tI_sub (a := n + 1) (b := k + 1) (by omega)
    have y4 := tI_sub (a := n + 1) (b := k) (by omega)
    unfold Int32.toNatClampNeg
    omega
theorem list34_ok (s : S1) (i a b n : Int32) (h : Ic s i) (ho : iO (wd s (pq s) i) = 43) (ea : iA (wd s (pq s) i) = a) (eb : iB (wd s (pq s) i) = b) (aa : 0 ≤ a ∧ a ≤ 255) (hb : 0 ≤ b ∧ b ≤ 511) (hra : a < a_registers s (pq s))
    (hn : (b = 0 ∧ n = t_rowAt s (cu s) (tp s) + t_rowCount s (cu s) (tp s) - a - 1 ∧ a + 1 ≤ t_rowAt s (cu s) (tp s) ∧ 0 ≤ t_rowAt s (cu s) (tp s) ∧ t_rowAt s (cu s) (tp s) < a_registers s (pq s)) ∨ (b ≠ 0 ∧ n = b ∧ a + b < a_registers s (pq s))) :
    ok (M_Mo_list_j34 (cu s) (tp s) (wd s (pq s) i) 19 (cu s) (bs s + a) n) s (fun _ s' => Out s') := by
  have nt := top_num h.1 h.2.1.1 h.2.1.2.1
  obtain ⟨t1, t2, t3, t4, t5, t6, t7, t8, t9, t10, t11, -⟩ := h.1.top h.2.1.1 h.2.1.2.1
  obtain ⟨x1, x2⟩ := t11 _ aa.1 hra
  have x3 : 0 ≤ bs s + a ∧ bs s + a < 4300 := ⟨x1.1, Int32.lt_trans x1.2 (by decide)⟩
  have ea' : (wd s (pq s) i >>> (6 &&& 31)) &&& 255 = a := ea
  have eb' : iushr (wd s (pq s) i) 23 = b := eb
  have hm : ¬ mks (wd s (pq s) i) := by
    rintro (z | z) <;> rw [ho] at z <;> exact absurd z.1 (by decide)
  have hop : iO (wd s (pq s) i) ≠ 30 ∧ iO (wd s (pq s) i) ≠ 37 ∧ iO (wd s (pq s) i) ≠ 38 := by
    rw [ho]
    decide
  simp only [M_Mo_list_j34, ok_B, ok_C, ok_R, ok_L, ok_K, ok_GI, ok_GL, ok_PI, ok_PL, ok_AI, ok_AL, ok_SI, ok_SL, ok_Pr, ok_CI, cmp_lt, cmp_le, cmp_gt, cmp_ge, cmp_eq, nar0, nar1, Sum.elim_inl, Sum.elim_inr]
  refine ⟨x3, fun k5 => ?_, fun k5 => ⟨nt.2.2, ok_mono (q_raise_ok _ 2) fun w s2 ⟨ew, es⟩ => ?_⟩⟩
  · have fin : ∀ s1, Rx s s1 → Id s1 i → ok (M_Mo_list_j199 (cu s) (tp s)) s1 (fun _ s' => Out s') := fun s1 rx id1 => by
      obtain ⟨d1, d2, d3, d4⟩ := rx.same h.1 h.2.1.1 h.2.1.2.1
      obtain ⟨id2, r2, e3, e5⟩ := id1.drop
      have ec : cu (sA s1 36 (cu s1) (tp s1) 0) = cu s1 := rfl
      have et : tp (sA s1 36 (cu s1) (tp s1) 0) = tp s1 := rfl
      have o := Ic.done0 id2.1 id2.2.1 id2.2.2.1 id2.2.2.2 (by rw [ec, et]; exact r2) (by rw [e3, e5, d3, rx.wd]; exact hm) (by rw [e3, e5, d3, rx.wd]; exact hop)
      rw [d1, d2] at o
      simp only [M_Mo_list_j199, ok_B, ok_C, ok_R, ok_L, ok_K, ok_GI, ok_GL, ok_PI, ok_PL, ok_AI, ok_AL, ok_SI, ok_SL, ok_Pr, ok_CI, cmp_lt, cmp_le, cmp_gt, cmp_ge, cmp_eq, nar0, nar1, Sum.elim_inl, Sum.elim_inr]
      exact ⟨nt.2.2, o⟩
    refine ok_mono (ok_W (Q := fun y s' => Sum.elim (fun z => z = (cu s, tp s)) (fun z => z = (cu s, tp s)) y ∧ Rx s s' ∧ Id s' i) (fun x s' => (x.1 = cu s ∧ x.2.1 = tp s ∧ x.2.2.1 = wd s (pq s) i ∧ x.2.2.2.1 = 19 ∧ x.2.2.2.2.1 = cu s ∧ x.2.2.2.2.2.1 = bs s + a ∧ x.2.2.2.2.2.2.1 = n) ∧ 1 ≤ x.2.2.2.2.2.2.2 ∧ gA s' 20 (cu s) (bs s + a) = 5 ∧ Rx s s' ∧ Id s' i) (fun x _ => (n + 1 - x.2.2.2.2.2.2.2).toNatClampNeg) ?_ (cu s, tp s, wd s (pq s) i, 19, cu s, bs s + a, n, 1) s ⟨⟨rfl, rfl, rfl, rfl, rfl, rfl, rfl⟩, (show (1 : Int32) ≤ 1 by decide), k5, Rx.refl h.1.1 h.1.2.1, h.1, h.2.1, h.2.2.2, Or.inl h.2.2.1⟩) ?_
    · rintro ⟨y1, y2, y3, y4, y5, y6, y7, k⟩ s1 ⟨⟨q1, q2, q3, q4, q5, q6, q7⟩, k1, h5, rx, id1⟩
      dsimp only at q1 q2 q3 q4 q5 q6 q7 k1
      subst q1 q2 q3 q4 q5 q6 q7
      obtain ⟨d1, d2, d3, d4⟩ := rx.same h.1 h.2.1.1 h.2.1.2.1
      obtain ⟨u1, u2, u3, u4, u5, u6, u7, u8, u9, u10, u11, u12, u13, -⟩ := id1.1.top id1.2.1.1 id1.2.1.2.1
      have d1' : f_current s1 = f_current s := d1
      rw [d1', d3, d4, rx.reg] at u11
      rw [d1', d2] at u13
      have e35 : t_rowAt s1 (cu s) (tp s) = t_rowAt s (cu s) (tp s) := rx.2.2.2.A 35 (by decide) _ _
      have e36 : t_rowCount s1 (f_current s) (tp s) = t_rowCount s (cu s) (tp s) := rx.2.2.2.A 36 (by decide) _ _
      rw [e36] at u13
      simp only [M_Mo_list_L65, M_Mo_b, M_Mo_a, ok_B, ok_C, ok_R, ok_L, ok_K, ok_GI, ok_GL, ok_PI, ok_PL, ok_AI, ok_AL, ok_SI, ok_SL, ok_Pr, ok_CI, cmp_lt, cmp_le, cmp_gt, cmp_ge, cmp_eq, nar0, nar1, Sum.elim_inl, Sum.elim_inr, ea', eb']
      refine ⟨fun c => ⟨by trivial, rx, id1⟩, fun c => ?_⟩
      obtain ⟨⟨nn1, nn2, nn3⟩, nn4, nn5⟩ := list_num aa t7.2.1.2 t10 k1 c hb hn
      -- one entry
      have one : ∀ (r : Nat) (u j : Int32), (0 ≤ j ∧ j < lnI (r + 1) ∧ j < lnI (r + 2)) → Vl false s1 (gA s1 (r + 1) u j) (gB s1 (r + 2) u j) → ok (M_Mo_list_j145 (cu s) (tp s) (wd s (pq s) i) 19 (cu s) (bs s + a) y7 k r u j) s1 (fun y s' => Sum.elim (fun z => ((z.1 = cu s ∧ z.2.1 = tp s ∧ z.2.2.1 = wd s (pq s) i ∧ z.2.2.2.1 = 19 ∧ z.2.2.2.2.1 = cu s ∧ z.2.2.2.2.2.1 = bs s + a ∧ z.2.2.2.2.2.2.1 = y7) ∧ 1 ≤ z.2.2.2.2.2.2.2 ∧ gA s' 20 (cu s) (bs s + a) = 5 ∧ Rx s s' ∧ Id s' i) ∧ (y7 + 1 - z.2.2.2.2.2.2.2).toNatClampNeg < (y7 + 1 - k).toNatClampNeg) (fun e => Sum.elim (fun z => z = (cu s, tp s)) (fun z => z = (cu s, tp s)) e ∧ Rx s s' ∧ Id s' i) y) := fun r u j hj hv => by
        obtain ⟨z1, z2⟩ := u11 _ aa.1 hra
        have z3 : 0 ≤ bs s + a ∧ bs s + a < 4300 := ⟨z1.1, Int32.lt_trans z1.2 (by decide)⟩
        have z2' : Vl false s1 (gA s1 20 (cu s) (bs s + a)) (gB s1 21 (cu s) (bs s + a)) := z2
        rw [h5] at z2'
        have hl := z2'.lv5 (Or.inr (Or.inl rfl))
        simp only [M_Mo_list_j145, M_Mo_c, ok_B, ok_C, ok_R, ok_L, ok_K, ok_GI, ok_GL, ok_PI, ok_PL, ok_AI, ok_AL, ok_SI, ok_SL, ok_Pr, ok_CI, cmp_lt, cmp_le, cmp_gt, cmp_ge, cmp_eq, nar0, nar1, Sum.elim_inl, Sum.elim_inr]
        refine ⟨z3, ⟨hj.1, hj.2.1⟩, ⟨hj.1, hj.2.2⟩, ok_mono (put_ok s1 _ 3 _ 0 _ _ id1.1.1 hl (Or.inl ⟨by decide, by decide⟩) hv (by rw [id1.2.2.1]; decide) (Or.inl id1.1.2.1)) fun w s2 ⟨nx, _, hh, _⟩ => ?_⟩
        have rx2 := nx.rx id1.1.2.1
        have id2 : Id s2 i := by
          refine ⟨id1.1.rx rx2, id1.2.1.rx id1.1 rx2, hh.trans id1.2.2.1, ?_⟩
          rcases nx.2.2.2.2.2 with q | q
          · have q' : f_todo s2 = f_todo s1 := q
            rw [q']
            exact id1.2.2.2
          · exact Or.inr q
        exact ⟨fun _ => ⟨by trivial, rx.trans rx2, id2⟩, fun _ => ⟨⟨⟨by trivial, by trivial, by trivial, by trivial, by trivial, by trivial, by trivial⟩, nn4, (nx.2.1.A 20 (by decide) _ _).trans h5, rx.trans rx2, id2⟩, nn5⟩⟩
      have as : bs s + a + k = bs s + (a + k) := Int32.add_assoc _ _ _
      have st : 0 ≤ a + k ∧ a + k < a_registers s (pq s) → ok (M_Mo_list_j99 (cu s) (tp s) (wd s (pq s) i) 19 (cu s) (bs s + a) y7 k) s1 (fun y s' => Sum.elim (fun z => ((z.1 = cu s ∧ z.2.1 = tp s ∧ z.2.2.1 = wd s (pq s) i ∧ z.2.2.2.1 = 19 ∧ z.2.2.2.2.1 = cu s ∧ z.2.2.2.2.2.1 = bs s + a ∧ z.2.2.2.2.2.2.1 = y7) ∧ 1 ≤ z.2.2.2.2.2.2.2 ∧ gA s' 20 (cu s) (bs s + a) = 5 ∧ Rx s s' ∧ Id s' i) ∧ (y7 + 1 - z.2.2.2.2.2.2.2).toNatClampNeg < (y7 + 1 - k).toNatClampNeg) (fun e => Sum.elim (fun z => z = (cu s, tp s)) (fun z => z = (cu s, tp s)) e ∧ Rx s s' ∧ Id s' i) y) := fun q => by
        obtain ⟨z1, z2⟩ := u11 _ q.1 q.2
        have z3 : bs s + (a + k) < 4300 := Int32.lt_trans z1.2 (by decide)
        have w := one 19 (cu s) (bs s + (a + k)) ⟨z1.1, z3, z3⟩ z2
        simp only [M_Mo_list_j99, M_Mo_list_j100, M_Mo_list_j116, ok_B, ok_C, ok_R, ok_L, ok_K, ok_GI, ok_GL, ok_PI, ok_PL, ok_AI, ok_AL, ok_SI, ok_SL, ok_Pr, ok_CI, cmp_lt, cmp_le, cmp_gt, cmp_ge, cmp_eq, nar0, nar1, Sum.elim_inl, Sum.elim_inr, as]
        exact ⟨fun _ => ⟨fun _ => w, fun q => absurd (by trivial) q⟩, fun q => absurd (by trivial) q⟩
      have ro : b = 0 → ¬ a + k < t_rowAt s (cu s) (tp s) → ok (M_Mo_list_j100 (cu s) (tp s) (wd s (pq s) i) 19 (cu s) (bs s + a) y7 k 1) s1 (fun y s' => Sum.elim (fun z => ((z.1 = cu s ∧ z.2.1 = tp s ∧ z.2.2.1 = wd s (pq s) i ∧ z.2.2.2.1 = 19 ∧ z.2.2.2.2.1 = cu s ∧ z.2.2.2.2.2.1 = bs s + a ∧ z.2.2.2.2.2.2.1 = y7) ∧ 1 ≤ z.2.2.2.2.2.2.2 ∧ gA s' 20 (cu s) (bs s + a) = 5 ∧ Rx s s' ∧ Id s' i) ∧ (y7 + 1 - z.2.2.2.2.2.2.2).toNatClampNeg < (y7 + 1 - k).toNatClampNeg) (fun e => Sum.elim (fun z => z = (cu s, tp s)) (fun z => z = (cu s, tp s)) e ∧ Rx s s' ∧ Id s' i) y) := fun q1 q2 => by
        obtain ⟨z1, z2⟩ := nn1 q1 q2
        have z3 : a + k - t_rowAt s (cu s) (tp s) < 260 := Int32.lt_of_lt_of_le z2 t10.2
        have w := one 22 (cu s) (a + k - t_rowAt s (cu s) (tp s)) ⟨z1, z3, z3⟩ (u13 _ z1 z2)
        simp only [M_Mo_list_j100, M_Mo_list_j116, M_Mo_a, ok_B, ok_C, ok_R, ok_L, ok_K, ok_GI, ok_GL, ok_PI, ok_PL, ok_AI, ok_AL, ok_SI, ok_SL, ok_Pr, ok_CI, cmp_lt, cmp_le, cmp_gt, cmp_ge, cmp_eq, nar0, nar1, Sum.elim_inl, Sum.elim_inr, ea']
        have e35' : gA s1 35 (cu s) (tp s) = t_rowAt s (cu s) (tp s) := e35
        rw [e35']
        exact ⟨fun q => absurd q (by decide), fun _ => ⟨fun q => absurd q (by decide), fun _ => ⟨nt.2.2, w⟩⟩⟩
      have e35' : gA s1 35 (cu s) (tp s) = t_rowAt s (cu s) (tp s) := e35
      rw [e35']
      exact ⟨fun q => ⟨nt.2.2, fun d => st (nn2 q d), fun d => ro q d⟩, fun q => st (nn3 q)⟩
    · rintro y s1 ⟨hy, rx, id1⟩
      rcases y with y | y
      · simp only [Sum.elim_inl] at hy
        subst hy
        exact fin s1 rx id1
      · simp only [Sum.elim_inr] at hy
        subst hy
        exact fin s1 rx id1
  · obtain ⟨i2, r2⟩ := h.drop
    subst es
    exact i2.raise 2 _ (by decide)
theorem q_list_ok (s : S1) (i : Int32) (h : Ic s i) (ho : iO (wd s (pq s) i) = 43) : ok (M_Mo_list (cu s) (tp s) (wd s (pq s) i) 19 (cu s) (bs s + iA (wd s (pq s) i))) s (fun _ s' => Out s') := by
  have nt := top_num h.1 h.2.1.1 h.2.1.2.1
  have aa := iA_in (wd s (pq s) i)
  have bb := iB_in (wd s (pq s) i)
  obtain ⟨-, -, -, -, -, -, -, -, -, -, -, -, -, -, -, -, -, -, -, -, -, -, -, -, w43, -⟩ := Wn.all h
  obtain ⟨-, q1, q2⟩ := w43 ho
  simp only [M_Mo_list, M_Mo_b, M_Mo_a, ok_B, ok_C, ok_R, ok_L, ok_K, ok_GI, ok_GL, ok_PI, ok_PL, ok_AI, ok_AL, ok_SI, ok_SL, ok_Pr, ok_CI, cmp_lt, cmp_le, cmp_gt, cmp_ge, cmp_eq, nar0, nar1, Sum.elim_inl, Sum.elim_inr]
  refine ⟨fun c => ⟨nt.2.2, nt.2.2, ?_⟩, fun c => ?_⟩
  · have b0 : iB (wd s (pq s) i) = 0 := Int32.le_antisymm c bb.1
    obtain ⟨-, p2, p3⟩ := open_in h ⟨Or.inr (Or.inr (Or.inr ho)), b0⟩
    have p4 := p2 (by rw [ho]; decide)
    exact list34_ok s i _ _ _ h ho rfl rfl aa bb q1 (Or.inl ⟨b0, rfl, p4, p3.1, p3.2⟩)
  · have b0 : iB (wd s (pq s) i) ≠ 0 := fun q => c (by show iB (wd s (pq s) i) ≤ 0; rw [q]; decide)
    exact list34_ok s i _ _ _ h ho rfl rfl aa bb q1 (Or.inr ⟨b0, rfl, q2 b0⟩)
