/-! Arguments and results are gathered from registers and the open row. -/
theorem addAt_ok (s : S1) (i fl k : Int32) (r : Nat) (hr : r = 7 ∨ r = 10 ∨ r = 13) (h : Ic s i) (h0 : fl = 0 → 0 ≤ k ∧ k < a_registers s (pq s)) (h1 : fl ≠ 0 → (k < t_rowAt s (cu s) (tp s) → 0 ≤ k ∧ k < a_registers s (pq s)) ∧ (¬ k < t_rowAt s (cu s) (tp s) → 0 ≤ k - t_rowAt s (cu s) (tp s) ∧ k - t_rowAt s (cu s) (tp s) < t_rowCount s (cu s) (tp s)))
    (hn : gI s (128 * r + 2) 0 < 400) : ok (M_Mo_addAt r 0 (cu s) (tp s) fl k) s (fun _ s' => Ag r s s' ∧ gI s' (128 * r + 2) 0 = gI s (128 * r + 2) 0 + 1) := by
  obtain ⟨t1, t2, t3, t4, t5, t6, t7, t8, t9, t10, t11, t12, t13, -⟩ := h.1.top h.2.1.1 h.2.1.2.1
  have n := top_num h.1 h.2.1.1 h.2.1.2.1
  have st : 0 ≤ k ∧ k < a_registers s (pq s) → ok (M_Mo_addAt_j36 r 0 (cu s) (tp s) k) s (fun _ s' => Ag r s s' ∧ gI s' (128 * r + 2) 0 = gI s (128 * r + 2) 0 + 1) := fun q => by
    obtain ⟨x1, x2⟩ := t11 k q.1 q.2
    have x3 : bs s + k < 4300 := Int32.lt_trans x1.2 (by decide)
    simp only [M_Mo_addAt_j36, ok_B, ok_C, ok_R, ok_L, ok_K, ok_GI, ok_GL, ok_PI, ok_PL, ok_AI, ok_AL, ok_SI, ok_SL, ok_Pr, ok_CI, cmp_lt, cmp_le, cmp_gt, cmp_ge, cmp_eq, nar0, nar1, Sum.elim_inl, Sum.elim_inr]
    exact ⟨n.2.2, addFrom_ok s r 19 (cu s) _ hr h.1.1 ⟨x1.1, x3, x3⟩ x2 hn⟩
  simp only [M_Mo_addAt, ok_B, ok_C, ok_R, ok_L, ok_K, ok_GI, ok_GL, ok_PI, ok_PL, ok_AI, ok_AL, ok_SI, ok_SL, ok_Pr, ok_CI, cmp_lt, cmp_le, cmp_gt, cmp_ge, cmp_eq, nar0, nar1, Sum.elim_inl, Sum.elim_inr]
  refine ⟨fun c => st (h0 c), fun c => ⟨n.2.2, fun d => st ((h1 c).1 d), fun d => ⟨n.2.2, ?_⟩⟩⟩
  obtain ⟨y1, y2⟩ := (h1 c).2 d
  have y3 : k - t_rowAt s (cu s) (tp s) < 260 := Int32.lt_of_lt_of_le y2 t10.2
  exact addFrom_ok s r 22 (cu s) _ hr h.1.1 ⟨y1, y3, y3⟩ (t13 _ y1 y2) hn
/-- rows of arguments, and the open row's count -/
def Ga (s s' : S1) : Prop := (∀ f i, f ≠ 898 → gI s' f i = gI s f i) ∧ (∀ f i, gL s' f i = gL s f i) ∧ (∀ a i j, a ≠ 8 → a ≠ 36 → gA s' a i j = gA s a i j) ∧ ∀ a i j, a ≠ 9 → gB s' a i j = gB s a i j
theorem Ga.same {s s' : S1} (h : Ga s s') : cu s' = cu s ∧ tp s' = tp s ∧ pq s' = pq s ∧ bs s' = bs s ∧ (∀ p j, wd s' p j = wd s p j) ∧ (∀ p, a_registers s' p = a_registers s p) ∧ (∀ p, a_codes s' p = a_codes s p) := by
  have e1 : cu s' = cu s := h.1 72 0 (by decide)
  have e2 : tp s' = tp s := by
    show gI s' 3586 (cu s') - 1 = gI s 3586 (cu s) - 1
    rw [e1, h.1 3586 _ (by decide)]
  have A := h.2.2.1
  refine ⟨e1, e2, ?_, ?_, fun p j => ?_, fun p => A 44 0 p (by decide) (by decide), fun p => A 50 0 p (by decide) (by decide)⟩
  · show gA s' 62 0 (gA s' 31 (cu s') (tp s')) = gA s 62 0 (gA s 31 (cu s) (tp s))
    rw [e1, e2, A 31 _ _ (by decide) (by decide), A 62 _ _ (by decide) (by decide)]
  · show gA s' 33 (cu s') (tp s') = gA s 33 (cu s) (tp s)
    rw [e1, e2, A 33 _ _ (by decide) (by decide)]
  · show gA s' 55 0 (gA s' 49 0 p + j) = gA s 55 0 (gA s 49 0 p + j)
    rw [A 49 _ _ (by decide) (by decide), A 55 _ _ (by decide) (by decide)]
theorem Ga.lv {s s' : S1} (h : Ga s s') {m : Bool} {x k : Int32} : Lv m s' x k ↔ Lv m s x k := by
  unfold Lv
  simp only [f_used, a_sort, a_marked, h.1 40 _ (by decide), h.2.2.1 58 _ _ (by decide) (by decide), h.2.2.1 59 _ _ (by decide) (by decide)]
theorem Ga.vl {s s' : S1} (h : Ga s s') {m : Bool} {k : Int32} {v : Int64} : Vl m s' k v ↔ Vl m s k v := by
  unfold Vl
  simp only [h.lv]
/-- the open row's count is set to nothing, at the top frame -/
theorem Ic.drop {s : S1} {i : Int32} (h : Ic s i) : Ic (sA s 36 (cu s) (tp s) 0) i ∧ t_rowCount (sA s 36 (cu s) (tp s) 0) (cu s) (tp s) = 0 := by
  have n := top_num h.1 h.2.1.1 h.2.1.2.1
  have g := h.1.1.th (drop_th (f := tp s) h.1.1 n.1 h.alive)
  obtain ⟨t1, t2, t3, t4, t5, t6⟩ := h.2.1
  have e : t_rowCount (sA s 36 (cu s) (tp s) 0) (cu s) (tp s) = 0 := by simp only [t_rowCount, gI_sI, gI_sL, gI_sA, gI_sB, gI_sAf, gI_sBf, gL_sI, gL_sL, gL_sA, gL_sB, gL_sAf, gL_sBf, gA_sI, gA_sL, gA_sA, gA_sB, gA_sAf, gA_sBf, gB_sI, gB_sL, gB_sA, gB_sB, gB_sAf, gB_sBf, Nat.reduceEqDiff, Nat.reduceMul, Nat.reduceAdd, false_and, true_and, and_true, and_false, if_true, if_false]
  refine ⟨⟨⟨g, h.1.2.1, h.1.2.2.topz ⟨fun _ _ _ => rfl, fun a u v q p => ?_, fun _ _ => rfl⟩⟩, ?_, h.2.2.1, h.2.2.2⟩, e⟩
  · rw [gA_sA, if_neg]
    rintro ⟨e1, e2, e3⟩
    rcases p with p | p
    · exact p.2.2.1 e1
    · exact p ⟨e2, e3⟩
  · have e3 : pq (sA s 36 (cu s) (tp s) 0) = pq s := by
      show gA s 62 0 (gA (sA s 36 (cu s) (tp s) 0) 31 (cu s) (tp s)) = gA s 62 0 (gA s 31 (cu s) (tp s))
      rw [gA_sA, if_neg (fun z => absurd z.1 (by decide))]
    have e5 : ∀ p q, wd (sA s 36 (cu s) (tp s) 0) p q = wd s p q := fun p q => by simp only [wd, a_code, a_codeAt, gI_sI, gI_sL, gI_sA, gI_sB, gI_sAf, gI_sBf, gL_sI, gL_sL, gL_sA, gL_sB, gL_sAf, gL_sBf, gA_sI, gA_sL, gA_sA, gA_sB, gA_sAf, gA_sBf, gB_sI, gB_sL, gB_sA, gB_sB, gB_sAf, gB_sBf, Nat.reduceEqDiff, Nat.reduceMul, Nat.reduceAdd, false_and, true_and, and_true, and_false, if_true, if_false]
    unfold Tf
    have e1 : cu (sA s 36 (cu s) (tp s) 0) = cu s := rfl
    have e2 : tp (sA s 36 (cu s) (tp s) 0) = tp s := rfl
    rw [e1, e2, e3, e]
    simp only [e5]
    simp only [t_kind, t_pc, t_rowAt, a_codes, gI_sI, gI_sL, gI_sA, gI_sB, gI_sAf, gI_sBf, gL_sI, gL_sL, gL_sA, gL_sB, gL_sAf, gL_sBf, gA_sI, gA_sL, gA_sA, gA_sB, gA_sAf, gA_sBf, gB_sI, gB_sL, gB_sA, gB_sB, gB_sAf, gB_sBf, Nat.reduceEqDiff, Nat.reduceMul, Nat.reduceAdd, false_and, true_and, and_true, and_false, if_true, if_false] at *
    exact ⟨t1, t2, t3, t4, fun z => absurd rfl z, t6⟩
/-- where the open row lies, for an instruction that takes it -/
theorem open_in {s : S1} {i : Int32} (h : Ic s i) (hu : us (wd s (pq s) i)) : (iO (wd s (pq s) i) = 38 → iA (wd s (pq s) i) ≤ t_rowAt s (cu s) (tp s)) ∧ (iO (wd s (pq s) i) ≠ 38 → iA (wd s (pq s) i) + 1 ≤ t_rowAt s (cu s) (tp s)) ∧ (0 ≤ t_rowAt s (cu s) (tp s) ∧ t_rowAt s (cu s) (tp s) < a_registers s (pq s)) := by
  obtain ⟨-, -, -, t4, -, t6⟩ := h.2.1
  have wf := h.1.wf h.2.1
  obtain ⟨i0, mk⟩ := wf.2.2.1 hu
  have pr := (h.1.top h.2.1.1 h.2.1.2.1).2.2.2.2.2.2.1.2.2.2.2.2.1
  have ib : 0 ≤ i - 1 ∧ i - 1 < a_codes s (pq s) ∧ i - 1 + 1 = i := by
    have c1 := pr.2.2.2.1
    clear h wf mk t6 hu pr
    exact ⟨by grind, by grind, by grind⟩
  have wp := h.1.wfAt h.2.1 ⟨ib.1, ib.2.1⟩
  have q := (wp.2.1 mk).2
  rw [ib.2.2] at q
  rw [t6 hu]
  refine ⟨fun c => ?_, fun c => ?_, (iA_in _).1, ?_⟩
  · rw [if_pos c] at q
    exact q
  · rw [if_neg c] at q
    exact q
  · obtain ⟨-, -, -, -, -, -, -, -, -, -, -, -, -, -, -, -, -, w36, -, -, -, -, -, -, -, -, w45, -⟩ := wp.2.2.2.2
    rcases mk with m | m
    · exact (w36 m.1).1
    · exact (w45 m.1).1
theorem gath_num {a e k R C g : Int32} (ha : 0 ≤ a ∧ a ≤ 255) (hR : 0 ≤ R ∧ R < g) (hg : g < 251) (hC : 0 ≤ C ∧ C ≤ 260) (he : e = R + C) (h1 : a ≤ k) (h2 : k < e) : (k < R → 0 ≤ k ∧ k < g) ∧ (¬ k < R → 0 ≤ k - R ∧ k - R < C) := by
  subst he
  exact ⟨fun c => ⟨by grind, by grind⟩, fun c => ⟨by grind, by grind⟩⟩
theorem gath_num2 {a e k : Int32} (ha : 0 ≤ a ∧ a ≤ 256) (he : -2 ≤ e ∧ e ≤ 1000) (hc : e - a ≤ 250) (h1 : a ≤ k) (h2 : k < e) : a ≤ k + 1 ∧ k + 1 ≤ e ∧ (k + 1 - a) = (k - a) + 1 ∧ (k - a) < 400 ∧ (e - (k + 1)).toNatClampNeg < (e - k).toNatClampNeg ∧ k + 1 - a ≤ 250 ∧ 0 ≤ k - a := by
  exact ⟨by grind, by grind, by grind, by grind, clamp_lt (by grind) (by grind), by grind, by grind⟩
