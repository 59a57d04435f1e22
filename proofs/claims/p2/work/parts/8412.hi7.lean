/-! What else was handed over: into registers, or as an open row. -/
theorem row_len22 : lnI (22 + 1) = 260 ∧ lnI (22 + 2) = 260 := ⟨rfl, rfl⟩
/-- the open row is written while no frame of the thread holds one -/
theorem rowPut_th {s : S1} {t n m k : Int32} {v : Int64} (h : GG s) (ht : 0 ≤ t ∧ t < 33) (hp : 0 ≤ t_place s t) (hr : 0 ≤ t_frames s t - 1 → t_kind s t (t_frames s t - 1) = 0 → t_rowCount s t (t_frames s t - 1) = 0) : Tw2 s (sB (sI (sA s 23 t n k) 2818 t m) 24 t n v) t := by
  obtain ⟨⟨q1, q2, q3, q4⟩, p1, p2, p3⟩ := h.thr ht hp
  have lv : ∀ k' v', Vl false (sB (sI (sA s 23 t n k) 2818 t m) 24 t n v) k' v' ↔ Vl false s k' v' := fun k' v' => by
    unfold Vl Lv
    simp only [f_used, a_sort, a_marked, gI_sI, gI_sL, gI_sA, gI_sB, gI_sAf, gI_sBf, gL_sI, gL_sL, gL_sA, gL_sB, gL_sAf, gL_sBf, gA_sI, gA_sL, gA_sA, gA_sB, gA_sAf, gA_sBf, gB_sI, gB_sL, gB_sA, gB_sB, gB_sAf, gB_sBf, Nat.reduceEqDiff, Nat.reduceMul, Nat.reduceAdd, false_and, true_and, and_true, and_false, if_true, if_false]
  have lw : ∀ x k', Lv false (sB (sI (sA s 23 t n k) 2818 t m) 24 t n v) x k' ↔ Lv false s x k' := fun x k' => by
    unfold Lv
    simp only [f_used, a_sort, a_marked, gI_sI, gI_sL, gI_sA, gI_sB, gI_sAf, gI_sBf, gL_sI, gL_sL, gL_sA, gL_sB, gL_sAf, gL_sBf, gA_sI, gA_sL, gA_sA, gA_sB, gA_sAf, gA_sBf, gB_sI, gB_sL, gB_sA, gB_sB, gB_sAf, gB_sBf, Nat.reduceEqDiff, Nat.reduceMul, Nat.reduceAdd, false_and, true_and, and_true, and_false, if_true, if_false]
  refine ⟨fun f i q => ?_, fun _ _ => rfl, fun a i j q => ?_, fun a i j q => ?_, ⟨?_, ?_, ?_, fun g a b => ?_⟩, ?_, fun g a b => ?_, ?_⟩
  · rw [gI_sB, gI_sI, if_neg]
    · rfl
    · rintro ⟨e1, e2⟩
      rcases q with q | q
      · exact q.1 e1
      · exact q e2
  · rw [gA_sB, gA_sI, gA_sA, if_neg]
    rintro ⟨e1, e2, -⟩
    rcases q with q | q
    · exact q.1 e1
    · exact q e2
  · rw [gB_sB, if_neg]
    · rfl
    · rintro ⟨e1, e2, -⟩
      rcases q with q | q
      · exact q e1
      · exact q e2
  · simp only [v_start_n, gI_sI, gI_sL, gI_sA, gI_sB, gI_sAf, gI_sBf, gL_sI, gL_sL, gL_sA, gL_sB, gL_sAf, gL_sBf, gA_sI, gA_sL, gA_sA, gA_sB, gA_sAf, gA_sBf, gB_sI, gB_sL, gB_sA, gB_sB, gB_sAf, gB_sBf, Nat.reduceEqDiff, Nat.reduceMul, Nat.reduceAdd, false_and, true_and, and_true, and_false, if_true, if_false]
    exact q1
  · simp only [t_frames, gI_sI, gI_sL, gI_sA, gI_sB, gI_sAf, gI_sBf, gL_sI, gL_sL, gL_sA, gL_sB, gL_sAf, gL_sBf, gA_sI, gA_sL, gA_sA, gA_sB, gA_sAf, gA_sBf, gB_sI, gB_sL, gB_sA, gB_sB, gB_sAf, gB_sBf, Nat.reduceEqDiff, Nat.reduceMul, Nat.reduceAdd, false_and, true_and, and_true, and_false, if_true, if_false]
    exact q2
  · simp only [t_openCount, gI_sI, gI_sL, gI_sA, gI_sB, gI_sAf, gI_sBf, gL_sI, gL_sL, gL_sA, gL_sB, gL_sAf, gL_sBf, gA_sI, gA_sL, gA_sA, gA_sB, gA_sAf, gA_sBf, gB_sI, gB_sL, gB_sA, gB_sB, gB_sAf, gB_sBf, Nat.reduceEqDiff, Nat.reduceMul, Nat.reduceAdd, false_and, true_and, and_true, and_false, if_true, if_false]
    exact q3
  · have b' : g < t_frames s t := by
      simp only [t_frames, gI_sI, gI_sL, gI_sA, gI_sB, gI_sAf, gI_sBf, gL_sI, gL_sL, gL_sA, gL_sB, gL_sAf, gL_sBf, gA_sI, gA_sL, gA_sA, gA_sB, gA_sAf, gA_sBf, gB_sI, gB_sL, gB_sA, gB_sB, gB_sAf, gB_sBf, Nat.reduceEqDiff, Nat.reduceMul, Nat.reduceAdd, false_and, true_and, and_true, and_false, if_true, if_false] at b
      exact b
    have w := q4 g a b'
    unfold FrS at *
    simp only [a_sort, a_tag, a_first, a_second, a_third, a_chain, a_free, a_text, a_heads, a_ek, a_ev, a_vk, a_vv, a_follow, a_bucket, a_registers, f_used, v_variable_k, v_variable_v, v_stack_k, v_stack_v, v_row_k, v_row_v, v_start_n, v_start_k, v_start_v, t_place, t_frames, t_openCount, t_open, t_kind, t_function, t_base, t_extra, t_rowCount, p_ek, p_vk, p_ev, p_vv, p_follow, gI_sI, gI_sL, gI_sA, gI_sB, gI_sAf, gI_sBf, gL_sI, gL_sL, gL_sA, gL_sB, gL_sAf, gL_sBf, gA_sI, gA_sL, gA_sA, gA_sB, gA_sAf, gA_sBf, gB_sI, gB_sL, gB_sA, gB_sB, gB_sAf, gB_sBf, Nat.reduceEqDiff, Nat.reduceMul, Nat.reduceAdd, false_and, true_and, and_true, and_false, if_true, if_false] at *
    exact w
  · simp only [lv]
    simp only [v_start_n, v_start_k, v_start_v, gI_sI, gI_sL, gI_sA, gI_sB, gI_sAf, gI_sBf, gL_sI, gL_sL, gL_sA, gL_sB, gL_sAf, gL_sBf, gA_sI, gA_sL, gA_sA, gA_sB, gA_sAf, gA_sBf, gB_sI, gB_sL, gB_sA, gB_sB, gB_sAf, gB_sBf, Nat.reduceEqDiff, Nat.reduceMul, Nat.reduceAdd, false_and, true_and, and_true, and_false, if_true, if_false]
    exact p1
  · have b' : g < t_frames s t := by
      simp only [t_frames, gI_sI, gI_sL, gI_sA, gI_sB, gI_sAf, gI_sBf, gL_sI, gL_sL, gL_sA, gL_sB, gL_sAf, gL_sBf, gA_sI, gA_sL, gA_sA, gA_sB, gA_sAf, gA_sBf, gB_sI, gB_sL, gB_sA, gB_sB, gB_sAf, gB_sBf, Nat.reduceEqDiff, Nat.reduceMul, Nat.reduceAdd, false_and, true_and, and_true, and_false, if_true, if_false] at b
      exact b
    have w := p2 g a b'
    unfold FrV at *
    simp only [lv, lw]
    simp only [t_kind, t_function, t_base, t_extra, t_rowCount, t_frames, a_first, a_registers, v_stack_k, v_stack_v, gI_sI, gI_sL, gI_sA, gI_sB, gI_sAf, gI_sBf, gL_sI, gL_sL, gL_sA, gL_sB, gL_sAf, gL_sBf, gA_sI, gA_sL, gA_sA, gA_sB, gA_sAf, gA_sBf, gB_sI, gB_sL, gB_sA, gB_sB, gB_sAf, gB_sBf, Nat.reduceEqDiff, Nat.reduceMul, Nat.reduceAdd, false_and, true_and, and_true, and_false, if_true, if_false] at *
    refine ⟨w.1, fun z => ⟨(w.2 z).1, fun e i i1 i2 => ?_⟩⟩
    rw [e] at a z i2
    rw [hr a z] at i2
    exact absurd (Int32.lt_of_le_of_lt i1 i2) (by decide)
  · simp only [lw]
    simp only [t_openCount, t_open, gI_sI, gI_sL, gI_sA, gI_sB, gI_sAf, gI_sBf, gL_sI, gL_sL, gL_sA, gL_sB, gL_sAf, gL_sBf, gA_sI, gA_sL, gA_sA, gA_sB, gA_sAf, gA_sBf, gB_sI, gB_sL, gB_sA, gB_sB, gB_sAf, gB_sBf, Nat.reduceEqDiff, Nat.reduceMul, Nat.reduceAdd, false_and, true_and, and_true, and_false, if_true, if_false]
    exact p3
/-- the open row is there -/
theorem rowSet_th {s : S1} {t f a n : Int32} (h : GG s) (ht : 0 ≤ t ∧ t < 33) (hp : 0 ≤ t_place s t) (hn : 0 ≤ n ∧ n ≤ 260) (hv : ∀ i, 0 ≤ i → i < n → Vl false s (v_row_k s t i) (v_row_v s t i)) : Tw2 s (sA (sA s 35 t f a) 36 t f n) t := by
  obtain ⟨⟨q1, q2, q3, q4⟩, p1, p2, p3⟩ := h.thr ht hp
  have key : ∀ g, 0 ≤ g → g < t_frames s t → FrS (sA (sA s 35 t f a) 36 t f n) t g ∧ FrV false (sA (sA s 35 t f a) 36 t f n) t g := fun g a b => by
    have a4 := q4 g a b
    have b4 := p2 g a b
    unfold FrS FrV Vl Lv at *
    simp only [a_sort, a_tag, a_first, a_second, a_third, a_chain, a_free, a_text, a_heads, a_ek, a_ev, a_vk, a_vv, a_follow, a_bucket, a_registers, f_used, v_variable_k, v_variable_v, v_stack_k, v_stack_v, v_row_k, v_row_v, v_start_n, v_start_k, v_start_v, t_place, t_frames, t_openCount, t_open, t_kind, t_function, t_base, t_extra, t_rowCount, p_ek, p_vk, p_ev, p_vv, p_follow, gI_sI, gI_sL, gI_sA, gI_sB, gI_sAf, gI_sBf, gL_sI, gL_sL, gL_sA, gL_sB, gL_sAf, gL_sBf, gA_sI, gA_sL, gA_sA, gA_sB, gA_sAf, gA_sBf, gB_sI, gB_sL, gB_sA, gB_sB, gB_sAf, gB_sBf, Nat.reduceEqDiff, Nat.reduceMul, Nat.reduceAdd, false_and, true_and, and_true, and_false, if_true, if_false] at *
    by_cases c : g = f
    · simp only [c, if_true] at *
      refine ⟨fun z => ⟨(a4 z).1, (a4 z).2.1, (a4 z).2.2.1, (a4 z).2.2.2.1, hn.1, hn.2⟩, b4.1, fun z => ⟨(b4.2 z).1, fun _ i i1 i2 => hv i i1 ?_⟩⟩
      rw [Int32.zero_add] at i2
      exact i2
    · simp only [c, if_false] at *
      exact ⟨a4, b4⟩
  refine ⟨fun _ _ _ => rfl, fun _ _ => rfl, fun a i j q => ?_, fun _ _ _ _ => rfl, ⟨q1, q2, q3, fun g a b => (key g a b).1⟩, p1, fun g a b => (key g a b).2, p3⟩
  rw [gA_sA, if_neg, gA_sA, if_neg]
  · rintro ⟨e1, e2, -⟩
    rcases q with q | q
    · exact q.2.2.2.2.2.2.1 e1
    · exact q e2
  · rintro ⟨e1, e2, -⟩
    rcases q with q | q
    · exact q.2.2.2.2.2.2.2.1 e1
    · exact q e2
/-- rows of the current thread: what is beside them stays -/
def Rq2 (s s' : S1) (t : Int32) : Prop := (∀ f i, f ≠ 2818 → gI s' f i = gI s f i) ∧ (∀ f i, gL s' f i = gL s f i) ∧ (∀ a i j, a ≠ 23 → gA s' a i j = gA s a i j) ∧ (∀ a i j, a ≠ 24 → gB s' a i j = gB s a i j)
theorem Rq2.hy {s s' : S1} {t : Int32} (h : Rq2 s s' t) : Hy s s' := by
  refine ⟨fun f i q => h.1 f i ?_, fun a i j q => h.2.2.1 a i j ?_, fun i j => h.2.2.2 3 i j (by decide)⟩
  · rintro e
    subst e
    exact absurd q (by decide)
  · rintro e
    subst e
    exact absurd q (by decide)
theorem Rq2.lv {s s' : S1} {t : Int32} (h : Rq2 s s' t) {m : Bool} {k : Int32} {v : Int64} : Vl m s' k v ↔ Vl m s k v := by
  unfold Vl Lv
  simp only [f_used, a_sort, a_marked, h.1 40 _ (by decide), h.2.2.1 58 _ _ (by decide), h.2.2.1 59 _ _ (by decide)]
theorem rowAdd_ok (s : S1) (i r2u j : Int32) (r2 : Nat) (h : Ic s i) (r0 : t_rowCount s (cu s) (tp s) = 0) (hr2 : r2 ≠ 22) (hj : 0 ≤ j ∧ j < lnI (r2 + 1) ∧ j < lnI (r2 + 2)) (hv : Vl false s (gA s (r2 + 1) r2u j) (gB s (r2 + 2) r2u j)) (hn : 0 ≤ v_row_n s (cu s) ∧ v_row_n s (cu s) < 260) :
    ok (M_Va_add_ 22 (cu s) r2 r2u j) s (fun _ s' => Ic s' i ∧ Rx s s' ∧ Rq2 s s' (cu s) ∧ v_row_n s' (cu s) = v_row_n s (cu s) + 1 ∧ (∀ q, v_row_k s' (cu s) q = if q = v_row_n s (cu s) then gA s (r2 + 1) r2u j else v_row_k s (cu s) q) ∧ (∀ q, v_row_v s' (cu s) q = if q = v_row_n s (cu s) then gB s (r2 + 2) r2u j else v_row_v s (cu s) q)) := by
  have n := top_num h.1 h.2.1.1 h.2.1.2.1
  have th := rowPut_th (n := v_row_n s (cu s)) (m := v_row_n s (cu s) + 1) (k := gA s (r2 + 1) r2u j) (v := gB s (r2 + 2) r2u j) h.1.1 n.1 h.alive (fun _ _ => r0)
  have g := h.1.1.th th
  have e : ∀ m x y, sB (sI (sA s 23 (cu s) m x) 2818 (cu s) (m + 1)) 24 (cu s) m y = sB (sI (sA s 23 (cu s) m x) 2818 (cu s) (m + 1)) 24 (cu s) m y := fun _ _ _ => rfl
  have rq : Rq2 s (sB (sI (sA s 23 (cu s) (v_row_n s (cu s)) (gA s (r2 + 1) r2u j)) 2818 (cu s) (v_row_n s (cu s) + 1)) 24 (cu s) (v_row_n s (cu s)) (gB s (r2 + 2) r2u j)) (cu s) := by
    refine ⟨fun f u q => ?_, fun _ _ => rfl, fun a u w q => ?_, fun a u w q => ?_⟩
    · simp only [gI_sI, gI_sL, gI_sA, gI_sB, gI_sAf, gI_sBf, gL_sI, gL_sL, gL_sA, gL_sB, gL_sAf, gL_sBf, gA_sI, gA_sL, gA_sA, gA_sB, gA_sAf, gA_sBf, gB_sI, gB_sL, gB_sA, gB_sB, gB_sAf, gB_sBf, Nat.reduceEqDiff, Nat.reduceMul, Nat.reduceAdd, false_and, true_and, and_true, and_false, if_true, if_false, q]
    · simp only [gI_sI, gI_sL, gI_sA, gI_sB, gI_sAf, gI_sBf, gL_sI, gL_sL, gL_sA, gL_sB, gL_sAf, gL_sBf, gA_sI, gA_sL, gA_sA, gA_sB, gA_sAf, gA_sBf, gB_sI, gB_sL, gB_sA, gB_sB, gB_sAf, gB_sBf, Nat.reduceEqDiff, Nat.reduceMul, Nat.reduceAdd, false_and, true_and, and_true, and_false, if_true, if_false, q]
    · simp only [gI_sI, gI_sL, gI_sA, gI_sB, gI_sAf, gI_sBf, gL_sI, gL_sL, gL_sA, gL_sB, gL_sAf, gL_sBf, gA_sI, gA_sL, gA_sA, gA_sB, gA_sAf, gA_sBf, gB_sI, gB_sL, gB_sA, gB_sB, gB_sAf, gB_sBf, Nat.reduceEqDiff, Nat.reduceMul, Nat.reduceAdd, false_and, true_and, and_true, and_false, if_true, if_false, q]
  have rx := Rx.hy g rq.hy h.1.2.1
  have ic := h.rx rx (rq.1 73 0 (by decide)) (rq.1 2050 0 (by decide))
  simp only [M_Va_add_, M_Va_add, ok_B, ok_C, ok_R, ok_L, ok_K, ok_GI, ok_GL, ok_PI, ok_PL, ok_AI, ok_AL, ok_SI, ok_SL, ok_Pr, ok_CI, cmp_lt, cmp_le, cmp_gt, cmp_ge, cmp_eq, nar0, nar1, Sum.elim_inl, Sum.elim_inr, i8_id hv.kind]
  simp only [Nat.reduceMul, Nat.reduceAdd, gI_sI, gI_sL, gI_sA, gI_sB, gI_sAf, gI_sBf, gL_sI, gL_sL, gL_sA, gL_sB, gL_sAf, gL_sBf, gA_sI, gA_sL, gA_sA, gA_sB, gA_sAf, gA_sBf, gB_sI, gB_sL, gB_sA, gB_sB, gB_sAf, gB_sBf, Nat.reduceEqDiff, Nat.reduceMul, Nat.reduceAdd, false_and, true_and, and_true, and_false, if_true, if_false]
  exact ⟨⟨hj.1, hj.2.1⟩, ⟨hj.1, hj.2.2⟩, hn, hn, ic, rx, rq, fun _ => trivial, fun _ => trivial⟩
theorem f110_num {a b k r : Int32} (ha : 0 ≤ a ∧ a ≤ 255) (hb : 0 ≤ b ∧ b ≤ 511) (b0 : b ≠ 0) (h : ¬ b < 2 → a + b - 2 < r) (hr : r < 251) (k1 : 0 ≤ k) (k2 : ¬ b - 1 ≤ k) : (0 ≤ a + k ∧ a + k < r) ∧ 0 ≤ k + 1 ∧ (b - 1 - (k + 1)).toNatClampNeg < (b - 1 - k).toNatClampNeg := by
  have k0 : (0 : Int32).toInt = 0 := rfl
  have kk1 : (1 : Int32).toInt = 1 := rfl
  have kk2 : (2 : Int32).toInt = 2 := rfl
  have k5 : (255 : Int32).toInt = 255 := rfl
  have k6 : (511 : Int32).toInt = 511 := rfl
  have kr : (251 : Int32).toInt = 251 := rfl
  have b0' : b.toInt ≠ 0 := fun e => b0 (by rw [← Int32.toInt_inj, e, k0])
  simp only [i32_le, i32_lt, k0, kk2, k5, k6, kr] at ha hb hr h k1 k2 ⊢
  have y0 := tI_sub (a := b) (b := 1) (by rw [kk1]; omega)
  rw [y0, kk1] at k2
  have y1 := tI_add (a := a) (b := b) (by omega)
  have y2 := tI_sub (a := a + b) (b := 2) (by rw [kk2]; omega)
  rw [y2, y1, kk2] at h
  have y3 := tI_add (a := a) (b := k) (by omega)
  have y4 := tI_add (a := k) (b := 1) (by rw [kk1]; omega)
  have y5 := tI_sub (a := b - 1) (b := k + 1) (by rw [y0, y4, kk1]; omega)
  have y6 := tI_sub (a := b - 1) (b := k) (by rw [y0, kk1]; omega)
  unfold Int32.toNatClampNeg
  rw [y3, y4, y5, y6, y0, y4, kk1]
  omega
theorem ip_num {i c : Int32} (h0 : 0 ≤ i) (h1 : i < c) : 0 ≤ i + 1 ∧ i + 1 - 1 = i := by
  exact ⟨by grind, by grind⟩
theorem row_out (s : S1) (i a n : Int32) (h : Ic s i) (ho : iO (wd s (pq s) i) = 45) (hb : iB (wd s (pq s) i) = 0) (ea : iA (wd s (pq s) i) = a) (hn : 0 ≤ n ∧ n ≤ 250) (hv : ∀ q, 0 ≤ q → q < n → Vl false s (v_row_k s (cu s) q) (v_row_v s (cu s) q)) : Out (sA (sA s 35 (cu s) (tp s) a) 36 (cu s) (tp s) n) := by
  have nt := top_num h.1 h.2.1.1 h.2.1.2.1
  have g := h.1.1.th (rowSet_th (f := tp s) (a := a) h.1.1 nt.1 h.alive ⟨hn.1, Int32.le_trans hn.2 (by decide)⟩ hv)
  have wf := h.1.wf h.2.1
  obtain ⟨um, -⟩ := wf.2.1 (Or.inr ⟨ho, hb⟩)
  have n1 : i + 1 < a_codes s (pq s) := by
    by_cases d : i + 1 < a_codes s (pq s)
    · exact d
    · rcases wf.1 d with e | e | e <;> rw [ho] at e <;> exact absurd e (by decide)
  have hf : Fr false (sA (sA s 35 (cu s) (tp s) a) 36 (cu s) (tp s) n) := h.1.2.2.topz ⟨fun _ _ _ => rfl, fun x u w q p => by
    rw [gA_sA, if_neg, gA_sA, if_neg]
    · rintro ⟨z1, z2, z3⟩
      rcases p with p | p
      · exact p.2.1 z1
      · exact p ⟨z2, z3⟩
    · rintro ⟨z1, z2, z3⟩
      rcases p with p | p
      · exact p.2.2.1 z1
      · exact p ⟨z2, z3⟩, fun _ _ => rfl⟩
  obtain ⟨u1, u2, u3, u4, u5, u6⟩ := h.2.1
  have p1 := ip_num u4.1 u4.2
  have eA1 : ∀ x u w, x ≠ 35 → x ≠ 36 → gA (sA (sA s 35 (cu s) (tp s) a) 36 (cu s) (tp s) n) x u w = gA s x u w := fun x u w p q => by simp only [gI_sI, gI_sL, gI_sA, gI_sB, gI_sAf, gI_sBf, gL_sI, gL_sL, gL_sA, gL_sB, gL_sAf, gL_sBf, gA_sI, gA_sL, gA_sA, gA_sB, gA_sAf, gA_sBf, gB_sI, gB_sL, gB_sA, gB_sB, gB_sAf, gB_sBf, Nat.reduceEqDiff, Nat.reduceMul, Nat.reduceAdd, false_and, true_and, and_true, and_false, if_true, if_false, p, q]
  have eI : ∀ f u, gI (sA (sA s 35 (cu s) (tp s) a) 36 (cu s) (tp s) n) f u = gI s f u := fun _ _ => rfl
  have e35 : gA (sA (sA s 35 (cu s) (tp s) a) 36 (cu s) (tp s) n) 35 (cu s) (tp s) = a := by simp only [gI_sI, gI_sL, gI_sA, gI_sB, gI_sAf, gI_sBf, gL_sI, gL_sL, gL_sA, gL_sB, gL_sAf, gL_sBf, gA_sI, gA_sL, gA_sA, gA_sB, gA_sAf, gA_sBf, gB_sI, gB_sL, gB_sA, gB_sB, gB_sAf, gB_sBf, Nat.reduceEqDiff, Nat.reduceMul, Nat.reduceAdd, false_and, true_and, and_true, and_false, if_true, if_false]
  have z0 : f_noCollection s = 0 := h.1.2.1
  have z1 : v_hand_n s = 0 := h.2.2.2
  have z2 : f_todo s = 0 := h.2.2.1
  generalize sA (sA s 35 (cu s) (tp s) a) 36 (cu s) (tp s) n = s2 at *
  have m1 : cu s2 = cu s := eI 72 0
  have m2 : tp s2 = tp s := by
    show gI s2 3586 (cu s2) - 1 = gI s 3586 (cu s) - 1
    rw [m1, eI]
  have m3 : pq s2 = pq s := by
    show gA s2 62 0 (gA s2 31 (cu s2) (tp s2)) = gA s 62 0 (gA s 31 (cu s) (tp s))
    rw [m1, m2, eA1 31 _ _ (by decide) (by decide), eA1 62 _ _ (by decide) (by decide)]
  have m5 : ∀ p q, wd s2 p q = wd s p q := fun p q => by
    show gA s2 55 0 (gA s2 49 0 p + q) = gA s 55 0 (gA s 49 0 p + q)
    rw [eA1 49 _ _ (by decide) (by decide), eA1 55 _ _ (by decide) (by decide)]
  have m6 : t_pc s2 (cu s) (tp s) = i + 1 := (eA1 32 _ _ (by decide) (by decide)).trans u3
  have m7 : t_rowAt s2 (cu s) (tp s) = a := e35
  have m8 : a_codes s2 (pq s) = a_codes s (pq s) := eA1 50 _ _ (by decide) (by decide)
  have m9 : t_kind s2 (cu s) (tp s) = 0 := (eA1 30 _ _ (by decide) (by decide)).trans u2
  refine ⟨g, (eI 92 0).trans z0, (eI 2050 0).trans z1, Or.inl ⟨(eI 73 0).trans z2, hf, ?_⟩⟩
  unfold Run
  rw [m1, m2, m3, m6, m7, m8]
  simp only [m5]
  rw [p1.2, ea]
  exact ⟨u1, m9, ⟨p1.1, n1⟩, fun _ => um, fun _ => rfl⟩
theorem furtherA_ok (s : S1) (i : Int32) (h : Ic s i) (ho : iO (wd s (pq s) i) = 45) (c : iB (wd s (pq s) i) = 0) : ok (M_Mo_further_j24 (cu s) (tp s) (wd s (pq s) i) 19 (cu s) (bs s + iA (wd s (pq s) i)) (gA s 34 (cu s) (tp s))) s (fun _ s' => Out s') := by
  have nt := top_num h.1 h.2.1.1 h.2.1.2.1
  have aa := iA_in (wd s (pq s) i)
  have bb := iB_in (wd s (pq s) i)
  obtain ⟨t1, t2, t3, t4, t5, t6, t7, t8, t9, t10, t11, t12, -⟩ := h.1.top h.2.1.1 h.2.1.2.1
  obtain ⟨-, -, -, -, -, -, -, -, -, -, -, -, -, -, -, -, -, -, -, -, -, -, -, -, -, -, w45, -⟩ := Wn.all h
  obtain ⟨q1, q2⟩ := w45 ho
  have hu : ¬ us (wd s (pq s) i) := by
    rintro ⟨z | z | z | z, -⟩ <;> rw [ho] at z <;> exact absurd z (by decide)
  have r0 : t_rowCount s (cu s) (tp s) = 0 := Classical.byContradiction fun z => hu (h.2.1.2.2.2.2.1 z)
  have b0 : iB (wd s (pq s) i) = 0 := c
  have b0' : iushr (wd s (pq s) i) 23 = 0 := c
  have mk : mks (wd s (pq s) i) := Or.inr ⟨ho, b0⟩
  simp only [M_Mo_further_j24, M_Mo_b, M_Mo_a, ok_B, ok_C, ok_R, ok_L, ok_K, ok_GI, ok_GL, ok_PI, ok_PL, ok_AI, ok_AL, ok_SI, ok_SL, ok_Pr, ok_CI, cmp_lt, cmp_le, cmp_gt, cmp_ge, cmp_eq, nar0, nar1, Sum.elim_inl, Sum.elim_inr, b0']
  refine ⟨nt.2.2, nt.2.2, fun _ => ?_, fun q => absurd (by trivial) q⟩
  have hx : Hx0 s (sI s 2818 (cu s) 0) := (Hx0.refl s).sI (by decide)
  have hy : Hy s (sI s 2818 (cu s) 0) := (Hy.refl s).sI (by decide)
  have rx0 := Rx.hx h.1.1 hx hy h.1.2.1
  have i0 := h.rx rx0 (by simp only [gI_sI, gI_sL, gI_sA, gI_sB, gI_sAf, gI_sBf, gL_sI, gL_sL, gL_sA, gL_sB, gL_sAf, gL_sBf, gA_sI, gA_sL, gA_sA, gA_sB, gA_sAf, gA_sBf, gB_sI, gB_sL, gB_sA, gB_sB, gB_sAf, gB_sBf, Nat.reduceEqDiff, Nat.reduceMul, Nat.reduceAdd, false_and, true_and, and_true, and_false, if_true, if_false]) (by simp only [gI_sI, gI_sL, gI_sA, gI_sB, gI_sAf, gI_sBf, gL_sI, gL_sL, gL_sA, gL_sB, gL_sAf, gL_sBf, gA_sI, gA_sL, gA_sA, gA_sB, gA_sAf, gA_sBf, gB_sI, gB_sL, gB_sA, gB_sB, gB_sAf, gB_sBf, Nat.reduceEqDiff, Nat.reduceMul, Nat.reduceAdd, false_and, true_and, and_true, and_false, if_true, if_false])
  have e0 : v_row_n (sI s 2818 (cu s) 0) (cu s) = 0 := by simp only [v_row_n, gI_sI, gI_sL, gI_sA, gI_sB, gI_sAf, gI_sBf, gL_sI, gL_sL, gL_sA, gL_sB, gL_sAf, gL_sBf, gA_sI, gA_sL, gA_sA, gA_sB, gA_sAf, gA_sBf, gB_sI, gB_sL, gB_sA, gB_sB, gB_sAf, gB_sBf, Nat.reduceEqDiff, Nat.reduceMul, Nat.reduceAdd, false_and, true_and, and_true, and_false, if_true, if_false]
  obtain ⟨d1, d2, d3, d4⟩ := rx0.same h.1 h.2.1.1 h.2.1.2.1
  have eA : ∀ a u j, gA (sI s 2818 (cu s) 0) a u j = gA s a u j := fun _ _ _ => rfl
  have eB : ∀ a u j, gB (sI s 2818 (cu s) 0) a u j = gB s a u j := fun _ _ _ => rfl
  have vl0 : ∀ k v, Vl false (sI s 2818 (cu s) 0) k v ↔ Vl false s k v := fun k v => Vl.hs hx.hw.hs
  generalize sI s 2818 (cu s) 0 = z at *
  have er : gA s 33 (cu s) (tp s) = bs s := rfl
  have ex : gA s 34 (cu s) (tp s) = t_extra s (cu s) (tp s) := rfl
  rw [er, ex]
  generalize hE : t_extra s (cu s) (tp s) = E at *
  have ne : E = t_extra s (f_current s) (tp s) := hE.symm
  have e8 : 0 ≤ E ∧ E ≤ 250 := ⟨t8.1, t8.2.1⟩
  have e12 : ∀ j, 0 ≤ j → j < E → (0 ≤ bs s - E + j ∧ bs s - E + j < 4300) ∧ Vl false s (gA s 20 (cu s) (bs s - E + j)) (gB s 21 (cu s) (bs s - E + j)) := fun j p q => by
    have w := t12 j p q
    exact ⟨⟨w.1.1, Int32.lt_trans w.1.2 (by decide)⟩, w.2⟩
  refine ok_mono (ok_W (Q := fun y s' => y = (cu s, tp s, wd s (pq s) i, E) ∧ Ic s' i ∧ Rx s s' ∧ t_rowCount s' (cu s) (tp s) = 0 ∧ ∀ q, 0 ≤ q → q < E → Vl false s' (v_row_k s' (cu s) q) (v_row_v s' (cu s) q)) (fun x s' => (x.1 = cu s ∧ x.2.1 = tp s ∧ x.2.2.1 = wd s (pq s) i ∧ x.2.2.2.1 = 19 ∧ x.2.2.2.2.1 = cu s ∧ x.2.2.2.2.2.1 = E ∧ x.2.2.2.2.2.2.1 = bs s - E) ∧ (0 ≤ x.2.2.2.2.2.2.2 ∧ x.2.2.2.2.2.2.2 ≤ E) ∧ Ic s' i ∧ Rx s s' ∧ Rq2 z s' (cu s) ∧ v_row_n s' (cu s) = x.2.2.2.2.2.2.2 ∧ ∀ q, 0 ≤ q → q < x.2.2.2.2.2.2.2 → Vl false s' (v_row_k s' (cu s) q) (v_row_v s' (cu s) q)) (fun x _ => (E - x.2.2.2.2.2.2.2).toNatClampNeg) ?_ (cu s, tp s, wd s (pq s) i, 19, cu s, E, bs s - E, 0) z ⟨⟨rfl, rfl, rfl, rfl, rfl, rfl, rfl⟩, ⟨(show (0 : Int32) ≤ 0 by decide), (show (0 : Int32) ≤ E from e8.1)⟩, i0, rx0, ⟨fun _ _ _ => rfl, fun _ _ => rfl, fun _ _ _ _ => rfl, fun _ _ _ _ => rfl⟩, (show v_row_n z (cu s) = 0 from e0), fun q a b => absurd (Int32.lt_of_le_of_lt a b) Int32.lt_irrefl⟩) ?_
  · rintro ⟨y1, y2, y3, y4, y5, y6, y7, k⟩ s1 ⟨⟨p1, p2, p3, p4, p5, p6, p7⟩, ⟨k1, k2⟩, i1, rx1, rq, hn, hv⟩
    dsimp only at p1 p2 p3 p4 p5 p6 p7 k1 k2 hn hv
    subst p1 p2 p3 p4 p5 p7
    obtain ⟨f1, f2, f3, f4⟩ := rx1.same h.1 h.2.1.1 h.2.1.2.1
    simp only [M_Mo_further_L60, ok_B, ok_C, ok_R, ok_L, ok_K, ok_GI, ok_GL, ok_PI, ok_PL, ok_AI, ok_AL, ok_SI, ok_SL, ok_Pr, ok_CI, cmp_lt, cmp_le, cmp_gt, cmp_ge, cmp_eq, nar0, nar1, Sum.elim_inl, Sum.elim_inr]
    rw [p6]
    have e36 : t_rowCount s1 (cu s) (tp s) = 0 := (rx1.2.2.2.A 36 (by decide) _ _).trans r0
    refine ⟨fun d => ⟨by trivial, i1, rx1, e36, fun q a b => hv q a ?_⟩, fun d => ?_⟩
    · rw [Int32.le_antisymm k2 d]
      exact b
    · have hlt := Int32.not_le.mp d
      have sn := step_num k1 hlt (Int32.le_trans e8.2 (by decide))
      obtain ⟨w1, w2⟩ := e12 k k1 hlt
      have vv : Vl false s1 (gA s1 (19 + 1) (cu s) (bs s - E + k)) (gB s1 (19 + 2) (cu s) (bs s - E + k)) := by
        have a1 : gA s1 (19 + 1) (cu s) (bs s - E + k) = gA s 20 (cu s) (bs s - E + k) := (rq.2.2.1 20 _ _ (by decide)).trans (eA _ _ _)
        have a2 : gB s1 (19 + 2) (cu s) (bs s - E + k) = gB s 21 (cu s) (bs s - E + k) := (rq.2.2.2 21 _ _ (by decide)).trans (eB _ _ _)
        rw [a1, a2, rq.lv, vl0]
        exact w2
      have nk : 0 ≤ v_row_n s1 (cu s1) ∧ v_row_n s1 (cu s1) < 260 := by
        rw [f1, hn]
        exact ⟨k1, Int32.lt_of_lt_of_le hlt (Int32.le_trans e8.2 (by decide))⟩
      have w := rowAdd_ok s1 i (cu s) (bs s - E + k) 19 i1 (by rw [f1, f2]; exact e36) (by decide) ⟨w1.1, w1.2, w1.2⟩ vv nk
      rw [f1, hn] at w
      refine ok_mono w fun _ s2 ⟨i2, rx2, rq2, n2, rk, rv⟩ => ⟨⟨⟨by trivial, by trivial, by trivial, by trivial, by trivial, rfl, by trivial⟩, ⟨sn.1, sn.2.1⟩, i2, rx1.trans rx2, ⟨fun f u q => (rq2.1 f u q).trans (rq.1 f u q), fun f u => (rq2.2.1 f u).trans (rq.2.1 f u), fun a u j q => (rq2.2.2.1 a u j q).trans (rq.2.2.1 a u j q), fun a u j q => (rq2.2.2.2 a u j q).trans (rq.2.2.2 a u j q)⟩, n2, fun q a b => ?_⟩, sn.2.2.2.2.2⟩
      rw [rk, rv, rq2.lv]
      by_cases cc : q = k
      · rw [if_pos cc, if_pos cc]
        exact vv
      · rw [if_neg cc, if_neg cc]
        rcases sn.2.2.2.1 q b with e | e
        · exact absurd e cc
        · exact hv q a e
  · rintro y s1 ⟨ey, i1, rx1, e36, hv⟩
    subst ey
    obtain ⟨f1, f2, f3, f4⟩ := rx1.same h.1 h.2.1.1 h.2.1.2.1
    have o := row_out s1 i (iA (wd s (pq s) i)) E i1 (by rw [f3, rx1.wd]; exact ho) (by rw [f3, rx1.wd]; exact b0) (by rw [f3, rx1.wd]) e8 (by rw [f1]; exact hv)
    rw [f1, f2] at o
    exact ⟨nt.2.2, nt.2.2, o⟩
theorem furtherB_ok (s : S1) (i : Int32) (h : Ic s i) (ho : iO (wd s (pq s) i) = 45) (c : ¬ iB (wd s (pq s) i) = 0) : ok (M_Mo_further_j24 (cu s) (tp s) (wd s (pq s) i) 19 (cu s) (bs s + iA (wd s (pq s) i)) (iB (wd s (pq s) i) - 1)) s (fun _ s' => Out s') := by
  have nt := top_num h.1 h.2.1.1 h.2.1.2.1
  have aa := iA_in (wd s (pq s) i)
  have bb := iB_in (wd s (pq s) i)
  obtain ⟨t1, t2, t3, t4, t5, t6, t7, t8, t9, t10, t11, t12, -⟩ := h.1.top h.2.1.1 h.2.1.2.1
  obtain ⟨-, -, -, -, -, -, -, -, -, -, -, -, -, -, -, -, -, -, -, -, -, -, -, -, -, -, w45, -⟩ := Wn.all h
  obtain ⟨q1, q2⟩ := w45 ho
  have hu : ¬ us (wd s (pq s) i) := by
    rintro ⟨z | z | z | z, -⟩ <;> rw [ho] at z <;> exact absurd z (by decide)
  have r0 : t_rowCount s (cu s) (tp s) = 0 := Classical.byContradiction fun z => hu (h.2.1.2.2.2.2.1 z)
  have b0 : iB (wd s (pq s) i) ≠ 0 := c
  have b0' : ¬ iushr (wd s (pq s) i) 23 = 0 := c
  have hp : Pl s i := by
    refine ⟨?_, hu, by rw [ho]; decide⟩
    rintro (z | z)
    · rw [ho] at z
      exact absurd z.1 (by decide)
    · exact b0 z.2
  simp only [M_Mo_further_j24, M_Mo_b, ok_B, ok_C, ok_R, ok_L, ok_K, ok_GI, ok_GL, ok_PI, ok_PL, ok_AI, ok_AL, ok_SI, ok_SL, ok_Pr, ok_CI, cmp_lt, cmp_le, cmp_gt, cmp_ge, cmp_eq, nar0, nar1, Sum.elim_inl, Sum.elim_inr]
  refine ⟨nt.2.2, nt.2.2, fun q => absurd q b0', fun _ => ?_⟩
  refine ok_W (fun x s' => (x.1 = cu s ∧ x.2.1 = tp s ∧ x.2.2.1 = 19 ∧ x.2.2.2.1 = cu s ∧ x.2.2.2.2.1 = bs s + iA (wd s (pq s) i) ∧ x.2.2.2.2.2.1 = iB (wd s (pq s) i) - 1 ∧ x.2.2.2.2.2.2.1 = bs s - t_extra s (cu s) (tp s)) ∧ 0 ≤ x.2.2.2.2.2.2.2 ∧ Ic s' i ∧ Rx s s') (fun x _ => (iB (wd s (pq s) i) - 1 - x.2.2.2.2.2.2.2).toNatClampNeg) ?_ (cu s, tp s, 19, cu s, bs s + iA (wd s (pq s) i), iB (wd s (pq s) i) - 1, bs s - t_extra s (cu s) (tp s), 0) s ⟨⟨rfl, rfl, rfl, rfl, rfl, rfl, rfl⟩, (show (0 : Int32) ≤ 0 by decide), h, Rx.refl h.1.1 h.1.2.1⟩
  rintro ⟨y1, y2, y3, y4, y5, y6, y7, k⟩ s1 ⟨⟨p1, p2, p3, p4, p5, p6, p7⟩, k1, i1, rx1⟩
  dsimp only at p1 p2 p3 p4 p5 p6 p7 k1
  subst p1 p2 p3 p4 p5 p6 p7
  obtain ⟨f1, f2, f3, f4⟩ := rx1.same h.1 h.2.1.1 h.2.1.2.1
  have pl1 := hp.of f3 rx1.wd
  obtain ⟨u1, u2, u3, u4, u5, u6, u7, u8, u9, u10, u11, u12, -⟩ := i1.1.top i1.2.1.1 i1.2.1.2.1
  have as : bs s + iA (wd s (pq s) i) + k = bs s + (iA (wd s (pq s) i) + k) := Int32.add_assoc _ _ _
  simp only [M_Mo_further_L110, M_Mo_further_j160, ok_B, ok_C, ok_R, ok_L, ok_K, ok_GI, ok_GL, ok_PI, ok_PL, ok_AI, ok_AL, ok_SI, ok_SL, ok_Pr, ok_CI, cmp_lt, cmp_le, cmp_gt, cmp_ge, cmp_eq, nar0, nar1, Sum.elim_inl, Sum.elim_inr, as]
  refine ⟨fun d => i1.done pl1.1 pl1.2.1 pl1.2.2, fun d => ⟨nt.2.2, fun e => ?_, fun e => ?_⟩⟩
  · have nn := f110_num aa bb b0 q2 t7.2.1.2 k1 d
    have w := i1.set (r := iA (wd s (pq s) i) + k) (k := 0) (v := 0) (by rw [f3, rx1.reg]; exact nn.1) (Or.inl ⟨by decide, by decide⟩)
    rw [f1, f4] at w
    exact ok_mono w fun _ s2 ⟨i2, ss, _⟩ => ⟨⟨⟨by trivial, by trivial, by trivial, by trivial, by trivial, by trivial, by trivial⟩, nn.2.1, i2, rx1.trans (Rx.hy i2.1.1 ss.hy i1.1.2.1)⟩, nn.2.2⟩
  · have nn := f110_num aa bb b0 q2 t7.2.1.2 k1 d
    have e34 : gA s1 34 (cu s) (tp s) = t_extra s (cu s) (tp s) := rx1.2.2.2.A 34 (by decide) _ _
    have hk := Int32.not_le.mp e
    have u12' := u12 k k1 (by
      have f1' : f_current s1 = f_current s := f1
      rw [f1', f2]
      exact hk)
    have f1' : f_current s1 = f_current s := f1
    rw [f1', f2, f4] at u12'
    have e34' : t_extra s1 (f_current s) (tp s) = t_extra s (cu s) (tp s) := e34
    rw [e34'] at u12'
    have z3 : bs s - t_extra s (cu s) (tp s) + k < 4300 := Int32.lt_trans u12'.1.2 (by decide)
    have w := i1.setFrom (r := iA (wd s (pq s) i) + k) (u := cu s) (j := bs s - t_extra s (cu s) (tp s) + k) 19 (by rw [f3, rx1.reg]; exact nn.1) ⟨u12'.1.1, z3, z3⟩ u12'.2
    rw [f1, f4] at w
    exact ok_mono w fun _ s2 ⟨i2, ss, _⟩ => ⟨⟨⟨by trivial, by trivial, by trivial, by trivial, by trivial, by trivial, by trivial⟩, nn.2.1, i2, rx1.trans (Rx.hy i2.1.1 ss.hy i1.1.2.1)⟩, nn.2.2⟩
theorem q_further_ok (s : S1) (i : Int32) (h : Ic s i) (ho : iO (wd s (pq s) i) = 45) : ok (M_Mo_further (cu s) (tp s) (pq s) (wd s (pq s) i) 19 (cu s) (bs s + iA (wd s (pq s) i))) s (fun _ s' => Out s') := by
  have nt := top_num h.1 h.2.1.1 h.2.1.2.1
  simp only [M_Mo_further, M_Mo_b, ok_B, ok_C, ok_R, ok_L, ok_K, ok_GI, ok_GL, ok_PI, ok_PL, ok_AI, ok_AL, ok_SI, ok_SL, ok_Pr, ok_CI, cmp_lt, cmp_le, cmp_gt, cmp_ge, cmp_eq, nar0, nar1, Sum.elim_inl, Sum.elim_inr]
  exact ⟨fun c => ⟨nt.2.2, furtherA_ok s i h ho c⟩, fun c => furtherB_ok s i h ho c⟩
