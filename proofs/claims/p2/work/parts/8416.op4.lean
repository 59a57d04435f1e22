/-! The last ten instructions, and a step. -/
theorem oB_a {β : Type} (w : Int32) (f : Int32 → M β) : oB (M_Mo_a w) f = f (iA w) := funext fun _ => rfl
theorem oB_b {β : Type} (w : Int32) (f : Int32 → M β) : oB (M_Mo_b w) f = f (iB w) := funext fun _ => rfl
theorem oB_c {β : Type} (w : Int32) (f : Int32 → M β) : oB (M_Mo_c w) f = f (iC w) := funext fun _ => rfl
theorem oB_x {β : Type} (w : Int32) (f : Int32 → M β) : oB (M_Mo_sbx w) f = f (iX w - 131071) := funext fun _ => rfl
theorem ok_BR {α : Type} {f : M α} {s : S1} {P : S1 → Prop} (h : ok f s (fun _ s' => P s')) : ok (oB f fun _ => oR ()) s (fun _ s' => P s') := by
  rw [ok_B]
  exact ok_mono h fun _ s' q => by
    rw [ok_R]
    exact q
theorem ln20 : oAI (19 + 1) (lnI (19 + 1)) = oAI 20 4300 := funext fun _ => rfl
theorem ln21 : oAL (19 + 2) (lnI (19 + 2)) = oAL 21 4300 := funext fun _ => rfl
theorem ln22 : oSL (19 + 2) (lnI (19 + 2)) = oSL 21 4300 := funext fun _ => rfl
theorem op_high {o : Int32} (h : 36 ≤ o ∧ o ≤ 45) (c1 : ¬ o = 36) (c2 : ¬ o = 37) (c3 : ¬ o = 38) (c4 : ¬ o = 39) (c5 : ¬ o = 40) (c6 : ¬ o = 41) (c7 : ¬ o = 42) (c8 : ¬ o = 43) (c9 : ¬ o = 44) : o = 45 := by grind
theorem high_ok (s : S1) (i : Int32) (h : Ic s i) (ho : 36 ≤ iO (wd s (pq s) i) ∧ iO (wd s (pq s) i) ≤ 45) : ok (M_Mo_high (cu s) (tp s) (pq s) (wd s (pq s) i) (iO (wd s (pq s) i)) 19 (cu s) (bs s + iA (wd s (pq s) i))) s (fun _ s' => Out s') := by
  simp only [M_Mo_high, oB_a, oB_b, oB_c, oB_x, ln20, ln21, ln22]
  rw [ok_C]
  refine ⟨fun c => op36_ok s i h c, fun c1 => ?_⟩
  rw [ok_C]
  refine ⟨fun c => op37_ok s i h c, fun c2 => ?_⟩
  rw [ok_C]
  refine ⟨fun c => op38_ok s i h c, fun c3 => ?_⟩
  rw [ok_C]
  refine ⟨fun c => ok_BR (q_loop_ok s i h c), fun c4 => ?_⟩
  rw [ok_C]
  refine ⟨fun c => op40_ok s i h c, fun c5 => ?_⟩
  rw [ok_C]
  refine ⟨fun c => op41_ok s i h c, fun c6 => ?_⟩
  rw [ok_C]
  refine ⟨fun c => op42_ok s i h c, fun c7 => ?_⟩
  rw [ok_C]
  refine ⟨fun c => ok_BR (q_list_ok s i h c), fun c8 => ?_⟩
  rw [ok_C]
  exact ⟨fun c => ok_BR (op44_ok s i h c), fun c9 => ok_BR (q_further_ok s i h (op_high ho c1 c2 c3 c4 c5 c6 c7 c8 c9))⟩
/-- an instruction begins -/
theorem Run.ic {s : S1} (h : RI false s) (hh : v_hand_n s = 0) (ht : f_todo s = 0) (hr : Run s) (n : Int64) : Ic (sL (sA s 32 (cu s) (tp s) (t_pc s (cu s) (tp s) + 1)) 81 0 n) (t_pc s (cu s) (tp s)) ∧ pq (sL (sA s 32 (cu s) (tp s) (t_pc s (cu s) (tp s) + 1)) 81 0 n) = pq s ∧ bs (sL (sA s 32 (cu s) (tp s) (t_pc s (cu s) (tp s) + 1)) 81 0 n) = bs s ∧ ∀ p q, wd (sL (sA s 32 (cu s) (tp s) (t_pc s (cu s) (tp s) + 1)) 81 0 n) p q = wd s p q := by
  obtain ⟨t1, t2, t3, t4, t5⟩ := hr
  have g : GG (sL (sA s 32 (cu s) (tp s) (t_pc s (cu s) (tp s) + 1)) 81 0 n) := h.1.hx (((Hx0.refl s).sA (by decide)).sL (by decide))
  have f : Fr false (sL (sA s 32 (cu s) (tp s) (t_pc s (cu s) (tp s) + 1)) 81 0 n) := h.2.2.topz ⟨fun _ _ _ => rfl, fun a u v q p => by
    rw [gA_sL, gA_sA, if_neg]
    rintro ⟨e1, e2, e3⟩
    rcases p with p | p
    · exact p.1 e1
    · exact p ⟨e2, e3⟩, fun _ _ => rfl⟩
  have e3 : pq (sL (sA s 32 (cu s) (tp s) (t_pc s (cu s) (tp s) + 1)) 81 0 n) = pq s := by
    show gA s 62 0 (gA (sA s 32 (cu s) (tp s) (t_pc s (cu s) (tp s) + 1)) 31 (cu s) (tp s)) = gA s 62 0 (gA s 31 (cu s) (tp s))
    rw [gA_sA, if_neg (fun z => absurd z.1 (by decide))]
  have e6 : bs (sL (sA s 32 (cu s) (tp s) (t_pc s (cu s) (tp s) + 1)) 81 0 n) = bs s := by
    show gA (sA s 32 (cu s) (tp s) (t_pc s (cu s) (tp s) + 1)) 33 (cu s) (tp s) = gA s 33 (cu s) (tp s)
    rw [gA_sA, if_neg (fun z => absurd z.1 (by decide))]
  have e5 : ∀ p q, wd (sL (sA s 32 (cu s) (tp s) (t_pc s (cu s) (tp s) + 1)) 81 0 n) p q = wd s p q := fun p q => by simp only [wd, a_code, a_codeAt, gI_sI, gI_sL, gI_sA, gI_sB, gI_sAf, gI_sBf, gL_sI, gL_sL, gL_sA, gL_sB, gL_sAf, gL_sBf, gA_sI, gA_sL, gA_sA, gA_sB, gA_sAf, gA_sBf, gB_sI, gB_sL, gB_sA, gB_sB, gB_sAf, gB_sBf, Nat.reduceEqDiff, Nat.reduceMul, Nat.reduceAdd, false_and, true_and, and_true, and_false, if_true, if_false]
  refine ⟨⟨⟨g, h.2.1, f⟩, ?_, ht, hh⟩, e3, e6, e5⟩
  unfold Tf
  have e1 : cu (sL (sA s 32 (cu s) (tp s) (t_pc s (cu s) (tp s) + 1)) 81 0 n) = cu s := rfl
  have e2 : tp (sL (sA s 32 (cu s) (tp s) (t_pc s (cu s) (tp s) + 1)) 81 0 n) = tp s := rfl
  have e4 : t_pc (sL (sA s 32 (cu s) (tp s) (t_pc s (cu s) (tp s) + 1)) 81 0 n) (cu s) (tp s) = t_pc s (cu s) (tp s) + 1 := by simp only [t_pc, gI_sI, gI_sL, gI_sA, gI_sB, gI_sAf, gI_sBf, gL_sI, gL_sL, gL_sA, gL_sB, gL_sAf, gL_sBf, gA_sI, gA_sL, gA_sA, gA_sB, gA_sAf, gA_sBf, gB_sI, gB_sL, gB_sA, gB_sB, gB_sAf, gB_sBf, Nat.reduceEqDiff, Nat.reduceMul, Nat.reduceAdd, false_and, true_and, and_true, and_false, if_true, if_false]
  rw [e1, e2, e3, e4]
  simp only [e5]
  simp only [t_kind, t_rowCount, t_rowAt, a_codes, gI_sI, gI_sL, gI_sA, gI_sB, gI_sAf, gI_sBf, gL_sI, gL_sL, gL_sA, gL_sB, gL_sAf, gL_sBf, gA_sI, gA_sL, gA_sA, gA_sB, gA_sAf, gA_sBf, gB_sI, gB_sL, gB_sA, gB_sB, gB_sAf, gB_sBf, Nat.reduceEqDiff, Nat.reduceMul, Nat.reduceAdd, false_and, true_and, and_true, and_false, if_true, if_false] at *
  exact ⟨t1, t2, t3, t4, t5⟩
theorem code_num {a i n : Int32} (ha : 0 ≤ a ∧ a ≤ 20000) (hi : 0 ≤ i) (hn : i < n) (h2 : n ≤ 20000 ∧ a + n ≤ 20000) : 0 ≤ a + i ∧ a + i < 20001 := by
  have c0 : (0 : Int32).toInt = 0 := rfl
  have c1 : (20000 : Int32).toInt = 20000 := rfl
  have c2 : (20001 : Int32).toInt = 20001 := rfl
  simp only [i32_le, i32_lt, c0, c1, c2] at *
  have y1 := tI_add (a := a) (b := n) (by omega)
  have y2 := tI_add (a := a) (b := i) (by omega)
  omega
theorem op_mid {o : Int32} (h : o ≤ 45) : (¬ 12 ≤ o → o < 12) ∧ (12 ≤ o → ¬ o = 12 → ¬ 27 ≤ o → 13 ≤ o ∧ o ≤ 26) ∧ (¬ 36 ≤ o → o < 36) := by
  exact ⟨fun a => by grind, fun a b c => ⟨by grind, by grind⟩, fun a => by grind⟩
theorem q_step_ok (s : S1) (h : RI false s) (hh : v_hand_n s = 0) (ht : f_todo s = 0) (hr : Run s) : ok M_Mo_step s (fun _ s' => Out s') := by
  have n := top_num h hr.1 hr.2.1
  obtain ⟨t1, t2, t3, t4, t5, t6, t7, -⟩ := h.top hr.1 hr.2.1
  have pg := h.2.2.1
  have pqb : 0 ≤ pq s ∧ pq s < 251 := ⟨t6.1, Int32.lt_trans t6.2 (Int32.lt_of_le_of_lt pg.1.2 (by decide))⟩
  have cd := t7.2.2.2.2.2.1
  have cn := code_num ⟨cd.1, cd.2.2.1⟩ hr.2.2.1.1 hr.2.2.1.2 ⟨cd.2.2.2.1, cd.2.2.2.2⟩
  simp only [M_Mo_step, M_Th_top, M_Mo_op, M_Mo_a, ok_B, ok_C, ok_R, ok_L, ok_K, ok_GI, ok_GL, ok_PI, ok_PL, ok_AI, ok_AL, ok_SI, ok_SL, ok_Pr, ok_CI, cmp_lt, cmp_le, cmp_gt, cmp_ge, cmp_eq, nar0, nar1, Sum.elim_inl, Sum.elim_inr]
  have e32 : gA s 32 (gI s 72 0) (gI s 3586 (gI s 72 0) - 1) = t_pc s (cu s) (tp s) := rfl
  have e31 : gA s 62 0 (gA s 31 (gI s 72 0) (gI s 3586 (gI s 72 0) - 1)) = pq s := rfl
  have e55 : gA s 55 0 (gA s 49 0 (pq s) + t_pc s (cu s) (tp s)) = wd s (pq s) (t_pc s (cu s) (tp s)) := rfl
  have ec : gI s 72 0 = cu s := rfl
  have et : gI s 3586 (cu s) - 1 = tp s := rfl
  rw [e32, e31, e55, ec, et]
  have w0 := h.2.2
  obtain ⟨ic, d3, d4, d5⟩ := Run.ic h hh ht hr (gL (sA s 32 (cu s) (tp s) (t_pc s (cu s) (tp s) + 1)) 81 0 + 1)
  have d1 : cu (sL (sA s 32 (cu s) (tp s) (t_pc s (cu s) (tp s) + 1)) 81 0 (gL (sA s 32 (cu s) (tp s) (t_pc s (cu s) (tp s) + 1)) 81 0 + 1)) = cu s := rfl
  have d2 : tp (sL (sA s 32 (cu s) (tp s) (t_pc s (cu s) (tp s) + 1)) 81 0 (gL (sA s 32 (cu s) (tp s) (t_pc s (cu s) (tp s) + 1)) 81 0 + 1)) = tp s := rfl
  have e33 : gA (sL (sA s 32 (cu s) (tp s) (t_pc s (cu s) (tp s) + 1)) 81 0 (gL (sA s 32 (cu s) (tp s) (t_pc s (cu s) (tp s) + 1)) 81 0 + 1)) 33 (cu s) (tp s) = bs s := d4
  rw [e33]
  generalize sL (sA s 32 (cu s) (tp s) (t_pc s (cu s) (tp s) + 1)) 81 0 (gL (sA s 32 (cu s) (tp s) (t_pc s (cu s) (tp s) + 1)) 81 0 + 1) = z at *
  generalize t_pc s (cu s) (tp s) = i at *
  have o45 : iO (wd z (pq z) i) ≤ 45 := (Wn.all ic).2.2.2.2.2.2.2.2.2.2.2.2.2.2.2.2.2.2.2.2.2.2.2.2.2.2.2.1
  have om := op_mid o45
  have wS := small_ok z i ic
  have wF := self_ok z i ic
  have wA' := arithmetic_ok z i ic
  have wM := middle_ok z i ic
  have wH := high_ok z i ic
  rw [d1, d2, d3, d4, d5] at wS wF wA' wM wH
  rw [d3, d5] at om o45
  exact ⟨n.1, n.1, n.2.2, t5, pqb, n.1, n.2.2, cn, n.1, n.2.2, n.2.2, n.1, n.1, n.2.2, fun c => ⟨fun c1 => ⟨n.1, wF c1⟩, fun c1 => ⟨fun c2 => ⟨fun c3 => ⟨n.1, wH ⟨c3, o45⟩⟩, fun c3 => ⟨n.1, wM ⟨c2, om.2.2 c3⟩⟩⟩, fun c2 => ⟨n.1, wA' (om.2.1 c c1 c2)⟩⟩⟩, fun c => ⟨n.1, wS (om.1 c)⟩⟩
