/-! An instruction at work; what it leaves. -/
abbrev cu (s : S1) : Int32 := f_current s
def Tf (s : S1) (i : Int32) : Prop := 0 ≤ tp s ∧ t_kind s (cu s) (tp s) = 0 ∧ t_pc s (cu s) (tp s) = i + 1 ∧ (0 ≤ i ∧ i < a_codes s (pq s)) ∧ (t_rowCount s (cu s) (tp s) ≠ 0 → us (wd s (pq s) i)) ∧ (us (wd s (pq s) i) → t_rowAt s (cu s) (tp s) = iA (wd s (pq s) (i - 1)))
/-- the top frame goes on with the instruction at its pc -/
def Run (s : S1) : Prop := 0 ≤ tp s ∧ t_kind s (cu s) (tp s) = 0 ∧ (0 ≤ t_pc s (cu s) (tp s) ∧ t_pc s (cu s) (tp s) < a_codes s (pq s)) ∧ (t_rowCount s (cu s) (tp s) ≠ 0 → us (wd s (pq s) (t_pc s (cu s) (tp s)))) ∧ (us (wd s (pq s) (t_pc s (cu s) (tp s))) → t_rowAt s (cu s) (tp s) = iA (wd s (pq s) (t_pc s (cu s) (tp s) - 1)))
/-- what a step may leave -/
def Out (s : S1) : Prop := GG s ∧ f_noCollection s = 0 ∧ v_hand_n s = 0 ∧ ((f_todo s = 0 ∧ Fr false s ∧ Run s) ∨ ((f_todo s = 3 ∨ f_todo s = 4) ∧ Fr false s) ∨ (f_todo s = 1 ∧ Fr true s ∧ v_args_n s ≤ 250) ∨ (f_todo s = 2 ∧ Fr true s ∧ v_results_n s ≤ 250))
theorem Rx.same {τ : Bool} {s s' : S1} (h : RI τ s) (k : Rx s s') (ht : 0 ≤ tp s) (hk : t_kind s (cu s) (tp s) = 0) : cu s' = cu s ∧ tp s' = tp s ∧ pq s' = pq s ∧ bs s' = bs s := by
  have hT := h.2.2.2.2.1
  have fe := k.2.2.1 hT
  have e1 : f_current s' = f_current s := fe.I 72 (by decide) 0
  have e2 : ∀ t, t_frames s' t = t_frames s t := fun t => fe.I 3586 (by decide) t
  have e3 : tp s' = tp s := by
    show t_frames s' (f_current s') - 1 = t_frames s (f_current s) - 1
    rw [e1, e2]
  have hlt : tp s < t_frames s (cu s) := by
    obtain ⟨-, -, t3, -⟩ := h.top ht hk
    have : t_frames s (f_current s) = t_frames s (f_current s) - 1 + 1 := by grind
    show t_frames s (f_current s) - 1 < t_frames s (f_current s)
    have t4 := t3.2
    simp only [tp] at t3 t4 ht
    clear hT fe h k
    grind
  have pl : 0 ≤ t_place s' (cu s) := fe.2.2.2.2.1 0 hT.1.1
  refine ⟨e1, e3, ?_, ?_⟩
  · show pf s' (f_current s') (tp s') = pf s (f_current s) (tp s)
    rw [e1, e3]
    exact fe.2.2.2.2.2.2.1 _ _ hT.1.1 hT.1.2 pl ht hlt hk
  · show gA s' 33 (f_current s') (tp s') = gA s 33 (f_current s) (tp s)
    rw [e1, e3]
    exact k.2.2.2.A 33 (by decide) _ _
theorem Tf.rx {τ : Bool} {s s' : S1} {i : Int32} (h : RI τ s) (hT : Tf s i) (k : Rx s s') : Tf s' i := by
  obtain ⟨e1, e2, e3, e4⟩ := k.same h hT.1 hT.2.1
  have fs := k.2.2.2
  unfold Tf at *
  rw [e1, e2, e3]
  simp only [t_kind, t_pc, t_rowCount, t_rowAt, a_codes, a_codeAt, a_code, fs.A 30 (by decide), fs.A 32 (by decide), fs.A 35 (by decide), fs.A 36 (by decide), fs.A 49 (by decide), fs.A 50 (by decide), fs.A 55 (by decide)] at *
  exact hT
theorem RI.wf {τ : Bool} {s : S1} {i : Int32} (h : RI τ s) (hT : Tf s i) : Wf s (pq s) i := (h.top hT.1 hT.2.1).2.2.2.2.2.2.1.2.2.2.2.2.2.2.1 i hT.2.2.2.1.1 hT.2.2.2.1.2
theorem RI.wfAt {τ : Bool} {s : S1} {i j : Int32} (h : RI τ s) (hT : Tf s i) (hj : 0 ≤ j ∧ j < a_codes s (pq s)) : Wf s (pq s) j := (h.top hT.1 hT.2.1).2.2.2.2.2.2.1.2.2.2.2.2.2.2.1 j hj.1 hj.2
/-- the next instruction, where this one makes no open row -/
theorem Tf.next {τ : Bool} {s : S1} {i : Int32} (h : RI τ s) (hT : Tf s i) (hm : ¬ mks (wd s (pq s) i)) (ho : iO (wd s (pq s) i) ≠ 30 ∧ iO (wd s (pq s) i) ≠ 37 ∧ iO (wd s (pq s) i) ≠ 38) : (0 ≤ i + 1 ∧ i + 1 < a_codes s (pq s)) ∧ ¬ us (wd s (pq s) (i + 1)) := by
  have w := h.wf hT
  have c := hT.2.2.2.1
  have n1 : i + 1 < a_codes s (pq s) := by
    by_cases d : i + 1 < a_codes s (pq s)
    · exact d
    · rcases w.1 d with e | e | e
      · exact absurd e ho.1
      · exact absurd e ho.2.1
      · exact absurd e ho.2.2
  have n2 : 0 ≤ i + 1 ∧ i + 1 - 1 = i := by
    have c5 := (h.top hT.1 hT.2.1).2.2.2.2.2.2.1.2.2.2.2.2.1.2.2.2.1
    clear h hT w hm ho
    grind
  refine ⟨⟨n2.1, n1⟩, fun u => hm ?_⟩
  have w2 := (h.wfAt hT ⟨n2.1, n1⟩).2.2.1 u
  rw [n2.2] at w2
  exact w2.2
theorem Tf.run {τ : Bool} {s : S1} {i : Int32} (h : RI τ s) (hT : Tf s i) (hm : ¬ mks (wd s (pq s) i)) (hu : ¬ us (wd s (pq s) i)) (ho : iO (wd s (pq s) i) ≠ 30 ∧ iO (wd s (pq s) i) ≠ 37 ∧ iO (wd s (pq s) i) ≠ 38) : Run s := by
  obtain ⟨n1, n2⟩ := hT.next h hm ho
  obtain ⟨t1, t2, t3, t4, t5, t6⟩ := hT
  refine ⟨t1, t2, ?_, fun z => absurd (t5 z) hu, fun z => ?_⟩
  · rw [t3]
    exact n1
  · rw [t3] at z
    exact absurd z n2
/-- the top frame waits -/
theorem Fr.wait {s : S1} (h : Fr false s) (hw : t_kind s (cu s) (tp s) = 0 → 0 ≤ tp s → (0 ≤ t_pc s (cu s) (tp s) ∧ t_pc s (cu s) (tp s) < a_codes s (pq s)) ∧ Wt s (cu s) (tp s)) (hn : 0 ≤ t_frames s (cu s) ∧ t_frames s (cu s) ≤ 200) : Fr true s := by
  obtain ⟨h1, h2, h3, h4⟩ := h
  refine ⟨h1, h2, h3, fun t a b c f d e => ?_⟩
  obtain ⟨k1, k2⟩ := h4 t a b c f d e
  refine ⟨k1, fun z => ⟨(k2 z).1, fun _ => ?_⟩⟩
  by_cases g : f < t_frames s t - 1 ∨ t ≠ f_current s
  · exact (k2 z).2 (by rcases g with g | g; exact Or.inl g; exact Or.inr (Or.inl g))
  · have g1 : t = f_current s := Classical.byContradiction fun q => g (Or.inr q)
    have g2 : f = tp s := by
      subst g1
      have g3 : ¬ f < t_frames s (f_current s) - 1 := fun q => g (Or.inl q)
      show f = t_frames s (f_current s) - 1
      clear g h1 h2 h3 h4 k1 k2 hw
      grind
    subst g2
    subst g1
    exact hw z d
theorem RI.wait {s : S1} (h : RI false s) (hw : t_kind s (cu s) (tp s) = 0 → 0 ≤ tp s → (0 ≤ t_pc s (cu s) (tp s) ∧ t_pc s (cu s) (tp s) < a_codes s (pq s)) ∧ Wt s (cu s) (tp s)) : RI true s := by
  have hT := h.2.2.2.2.1
  have hpl : 0 ≤ t_place s (f_current s) := hT.2.2.2.2.2.2.2.2.1 0 hT.1.1
  obtain ⟨w1, w2⟩ := h.1.1.1.2.2.2.2.2.1 _ hT.1.1 hT.1.2 hpl
  have q := (h.1.1.1.1.2.2 _ w1.1 w1.2.1).1.2.2.1 w1.2.2.1
  rw [w2] at q
  exact ⟨h.1, h.2.1, h.2.2.wait hw q.2.2.2.2.1⟩
