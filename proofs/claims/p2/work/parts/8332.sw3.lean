/-! The sweep's first round: threads that nothing reaches go. -/
def Te (s s' : S1) (t c : Int32) : Prop := (∀ f i, gL s' f i = gL s f i) ∧ (∀ a i j, gA s' a i j = gA s a i j) ∧ (∀ a i j, gB s' a i j = gB s a i j) ∧ ∀ f i, gI s' f i = if f = 39 ∧ i = 0 then c else if f = 3584 ∧ i = t then -1 else if f = 3587 ∧ i = t then 0 else gI s f i
theorem Te.I {s s' : S1} {t c : Int32} (h : Te s s' t c) (f : Nat) (hf : f ≠ 39 ∧ f ≠ 3584 ∧ f ≠ 3587) (i : Int32) : gI s' f i = gI s f i := by
  rw [h.2.2.2, if_neg (fun z => hf.1 z.1), if_neg (fun z => hf.2.1 z.1), if_neg (fun z => hf.2.2 z.1)]
theorem Te.O {s s' : S1} {t c : Int32} (h : Te s s' t c) (i : Int32) : gI s' 3587 i = if i = t then 0 else gI s 3587 i := by
  rw [h.2.2.2]
  simp only [Nat.reduceEqDiff, false_and, if_false, true_and]
theorem Te.P {s s' : S1} {t c : Int32} (h : Te s s' t c) (i : Int32) : gI s' 3584 i = if i = t then -1 else gI s 3584 i := by
  rw [h.2.2.2]
  simp only [Nat.reduceEqDiff, false_and, if_false, true_and]
theorem Lv.te {m : Bool} {s s' : S1} {x k t c : Int32} (hs : Te s s' t c) : Lv m s' x k ↔ Lv m s x k := by
  unfold Lv
  simp only [a_sort, a_tag, a_first, a_second, a_third, a_chain, a_free, a_text, a_heads, a_ek, a_ev, a_vk, a_vv, a_follow, a_bucket, a_registers, f_used, v_variable_k, v_variable_v, v_stack_k, v_stack_v, v_row_k, v_row_v, v_start_n, v_start_k, v_start_v, t_place, t_frames, t_openCount, t_open, t_kind, t_function, t_base, t_extra, t_rowCount, p_ek, p_vk, p_ev, p_vv, p_follow, a_marked, hs.2.1, hs.I 40 (by decide)]
theorem Vl.te {m : Bool} {s s' : S1} {k : Int32} {v : Int64} {t c : Int32} (hs : Te s s' t c) : Vl m s' k v ↔ Vl m s k v := by
  unfold Vl
  simp only [Lv.te hs]
theorem FrV.te {m : Bool} {s s' : S1} {u f t c : Int32} (hs : Te s s' t c) : FrV m s' u f ↔ FrV m s u f := by
  unfold FrV
  simp only [a_sort, a_tag, a_first, a_second, a_third, a_chain, a_free, a_text, a_heads, a_ek, a_ev, a_vk, a_vv, a_follow, a_bucket, a_registers, f_used, v_variable_k, v_variable_v, v_stack_k, v_stack_v, v_row_k, v_row_v, v_start_n, v_start_k, v_start_v, t_place, t_frames, t_openCount, t_open, t_kind, t_function, t_base, t_extra, t_rowCount, p_ek, p_vk, p_ev, p_vv, p_follow, hs.2.1, hs.2.2.1, hs.I 3586 (by decide), Lv.te hs, Vl.te hs]
theorem ThV.te {m : Bool} {s s' : S1} {u t c : Int32} (h : ThV m s u) (hs : Te s s' t c) : ThV m s' u := by
  obtain ⟨h1, h2, h3⟩ := h
  unfold ThV
  simp only [a_sort, a_tag, a_first, a_second, a_third, a_chain, a_free, a_text, a_heads, a_ek, a_ev, a_vk, a_vv, a_follow, a_bucket, a_registers, f_used, v_variable_k, v_variable_v, v_stack_k, v_stack_v, v_row_k, v_row_v, v_start_n, v_start_k, v_start_v, t_place, t_frames, t_openCount, t_open, t_kind, t_function, t_base, t_extra, t_rowCount, p_ek, p_vk, p_ev, p_vv, p_follow, hs.2.1, hs.2.2.1, hs.I 3586 (by decide), hs.I 3202 (by decide), Lv.te hs, Vl.te hs, FrV.te hs, hs.O] at *
  refine ⟨h1, h2, fun k a b => ?_⟩
  by_cases d : u = t
  · rw [if_pos d] at b
    exact absurd (Int32.lt_of_le_of_lt a b) Int32.lt_irrefl
  · rw [if_neg d] at b
    exact h3 k a b
theorem Ts.te {s s' : S1} {u t c : Int32} (h : Ts s u) (hs : Te s s' t c) : Ts s' u := by
  obtain ⟨h1, h2, h3, h4⟩ := h
  unfold Ts FrS at *
  simp only [a_sort, a_tag, a_first, a_second, a_third, a_chain, a_free, a_text, a_heads, a_ek, a_ev, a_vk, a_vv, a_follow, a_bucket, a_registers, f_used, v_variable_k, v_variable_v, v_stack_k, v_stack_v, v_row_k, v_row_v, v_start_n, v_start_k, v_start_v, t_place, t_frames, t_openCount, t_open, t_kind, t_function, t_base, t_extra, t_rowCount, p_ek, p_vk, p_ev, p_vv, p_follow, hs.2.1, hs.2.2.1, hs.I 3586 (by decide), hs.I 3202 (by decide), hs.O] at *
  refine ⟨h1, h2, ?_, h4⟩
  by_cases d : u = t
  · rw [if_pos d]
    exact ⟨by decide, by decide⟩
  · rw [if_neg d]
    exact h3
theorem Ball.te {s s' : S1} {t c : Int32} (h : Ball s) (hs : Te s s' t c) : Ball s' := by
  have hp : ∀ m x, PcV m s x → PcV m s' x := fun m x ⟨p1, p2, p3, p4⟩ => by
    unfold PcV
    simp only [a_sort, a_tag, a_first, a_second, a_third, a_chain, a_free, a_text, a_heads, a_ek, a_ev, a_vk, a_vv, a_follow, a_bucket, a_registers, f_used, v_variable_k, v_variable_v, v_stack_k, v_stack_v, v_row_k, v_row_v, v_start_n, v_start_k, v_start_v, t_place, t_frames, t_openCount, t_open, t_kind, t_function, t_base, t_extra, t_rowCount, p_ek, p_vk, p_ev, p_vv, p_follow, hs.2.1] at *
    refine ⟨fun z => ?_, fun z => ?_, fun z => (p3 z).te hs, fun z => ?_⟩
    · have := p1 z
      unfold TbV at *
      simp only [a_sort, a_tag, a_first, a_second, a_third, a_chain, a_free, a_text, a_heads, a_ek, a_ev, a_vk, a_vv, a_follow, a_bucket, a_registers, f_used, v_variable_k, v_variable_v, v_stack_k, v_stack_v, v_row_k, v_row_v, v_start_n, v_start_k, v_start_v, t_place, t_frames, t_openCount, t_open, t_kind, t_function, t_base, t_extra, t_rowCount, p_ek, p_vk, p_ev, p_vv, p_follow, hs.2.1, hs.2.2.1, Lv.te hs, Vl.te hs] at *
      exact this
    · have := p2 z
      unfold FnV at *
      simp only [a_sort, a_tag, a_first, a_second, a_third, a_chain, a_free, a_text, a_heads, a_ek, a_ev, a_vk, a_vv, a_follow, a_bucket, a_registers, f_used, v_variable_k, v_variable_v, v_stack_k, v_stack_v, v_row_k, v_row_v, v_start_n, v_start_k, v_start_v, t_place, t_frames, t_openCount, t_open, t_kind, t_function, t_base, t_extra, t_rowCount, p_ek, p_vk, p_ev, p_vv, p_follow, hs.2.1, hs.2.2.1, Lv.te hs, Vl.te hs] at *
      exact this
    · have := p4 z
      unfold VrV at *
      simp only [a_sort, a_tag, a_first, a_second, a_third, a_chain, a_free, a_text, a_heads, a_ek, a_ev, a_vk, a_vv, a_follow, a_bucket, a_registers, f_used, v_variable_k, v_variable_v, v_stack_k, v_stack_v, v_row_k, v_row_v, v_start_n, v_start_k, v_start_v, t_place, t_frames, t_openCount, t_open, t_kind, t_function, t_base, t_extra, t_rowCount, p_ek, p_vk, p_ev, p_vv, p_follow, hs.2.1, hs.2.2.1, Lv.te hs, Vl.te hs] at *
      exact this
  intro x a b
  have b' : x < f_used s := by
    show x < gI s 40 0
    rw [← hs.I 40 (by decide)]
    exact b
  obtain ⟨h1, h2, h3⟩ := h x a b'
  refine ⟨hp _ _ h1, fun z => hp _ _ (h2 ?_), ?_⟩
  · show gA s 59 0 x ≠ 0
    rw [← hs.2.1]
    exact z
  · obtain ⟨q1, q2, q3, q4⟩ := h3
    unfold ShN
    simp only [a_sort, a_tag, a_first, a_second, a_third, a_chain, a_free, a_text, a_heads, a_ek, a_ev, a_vk, a_vv, a_follow, a_bucket, a_registers, f_used, v_variable_k, v_variable_v, v_stack_k, v_stack_v, v_row_k, v_row_v, v_start_n, v_start_k, v_start_v, t_place, t_frames, t_openCount, t_open, t_kind, t_function, t_base, t_extra, t_rowCount, p_ek, p_vk, p_ev, p_vv, p_follow, f_entryTop, hs.2.1, hs.I 41 (by decide)] at *
    exact ⟨q1, q2, fun z => ⟨(q3 z).1, (q3 z).2.1, (q3 z).2.2.te hs⟩, q4⟩
/-- how many threads are in use -/
def tcn (s : S1) : Nat := (List.range 33).countP (fun n => decide (0 ≤ t_place s (Int32.ofNat n)))
def Tc (s : S1) : Prop := f_coroutines s = Int32.ofNat (tcn s)
def PT (s s' : S1) : Prop := (∀ t, t_place s' t = t_place s t ∨ t_place s' t = -1) ∧ (Tc s → Tc s')
theorem PT.refl (s : S1) : PT s s := ⟨fun _ => Or.inl rfl, fun h => h⟩
theorem PT.trans {a b c : S1} (p : PT a b) (q : PT b c) : PT a c := by
  refine ⟨fun t => ?_, fun h => q.2 (p.2 h)⟩
  rcases q.1 t with e | e
  · rw [e]
    exact p.1 t
  · exact Or.inr e
theorem PT.same {s s' : S1} (h1 : ∀ t, gI s' 3584 t = gI s 3584 t) (h2 : gI s' 39 0 = gI s 39 0) : PT s s' := by
  refine ⟨fun t => Or.inl (h1 t), fun h => ?_⟩
  unfold Tc tcn at *
  simp only [f_coroutines, t_place, h1, h2] at *
  exact h
theorem tcn_one {s s' : S1} {t : Int32} (ht : 0 ≤ t ∧ t < 33) (h : ¬ 0 ≤ t_place s t) (h' : 0 ≤ t_place s' t) (he : ∀ y, y ≠ t → t_place s' y = t_place s y) : tcn s' = tcn s + 1 := by
  have e := q_ofNat_clamp ht.1
  have hlt := clamp_lt ht.1 ht.2
  have h4 : (33 : Int32).toNatClampNeg = 33 := rfl
  unfold tcn
  rw [countP_one (fun n => decide (0 ≤ t_place s (Int32.ofNat n))) (fun n => decide (0 ≤ t_place s' (Int32.ofNat n))) t.toNatClampNeg (by rw [e]; exact decide_eq_false h) (by rw [e]; exact decide_eq_true h') 33 ?_, if_pos (by omega)]
  intro i hi0 hi
  by_cases hc : Int32.ofNat i = t
  · exfalso
    apply hi
    rw [← hc]
    unfold Int32.toNatClampNeg
    rw [Int32.toInt_ofNat_of_lt (by omega)]
    omega
  · rw [he _ hc]
theorem ofNat_pred (n : Nat) : Int32.ofNat (n + 1) - 1 = Int32.ofNat n := by
  rw [Int32.ofNat_add]
  show Int32.ofNat n + 1 - 1 = _
  grind
/-- what the sweep's first round leaves as it was -/
def Kp (s s' : S1) : Prop := (∀ f i, f ≠ 66 → f ≠ 39 → f ≠ 3584 → f ≠ 3587 → gI s' f i = gI s f i) ∧ (∀ f i, f ≠ 67 → gL s' f i = gL s f i) ∧ (∀ a i j, a ≠ 5 → a ≠ 62 → gA s' a i j = gA s a i j) ∧ (∀ a i j, a ≠ 6 → gB s' a i j = gB s a i j) ∧
  (∀ z, a_sort s z ≠ 8 → a_first s' z = a_first s z) ∧ (∀ t, a_marked s (t_place s t) ≠ 0 → t_place s' t = t_place s t) ∧ PT s s'
theorem Kp.refl (s : S1) : Kp s s := ⟨fun _ _ _ _ _ _ => rfl, fun _ _ _ => rfl, fun _ _ _ _ _ => rfl, fun _ _ _ _ => rfl, fun _ _ => rfl, fun _ _ => rfl, PT.refl s⟩
theorem Kp.trans {a b c : S1} (p : Kp a b) (q : Kp b c) : Kp a c := by
  obtain ⟨p1, p2, p3, p4, p5, p6, p7⟩ := p
  obtain ⟨q1, q2, q3, q4, q5, q6, q7⟩ := q
  refine ⟨fun f i h1 h2 h3 h4 => (q1 f i h1 h2 h3 h4).trans (p1 f i h1 h2 h3 h4), fun f i h => (q2 f i h).trans (p2 f i h), fun x i j h h' => (q3 x i j h h').trans (p3 x i j h h'), fun x i j h => (q4 x i j h).trans (p4 x i j h), fun z hz => ?_, fun t ht => ?_, p7.trans q7⟩
  · have e : a_sort b z = a_sort a z := p3 58 0 z (by decide) (by decide)
    exact (q5 z (by rw [e]; exact hz)).trans (p5 z hz)
  · have e := p6 t ht
    have e2 : a_marked b (t_place a t) = a_marked a (t_place a t) := p3 59 0 _ (by decide) (by decide)
    exact (q6 t (by rw [e, e2]; exact ht)).trans e
def Dn (s : S1) (i : Int32) : Prop := ∀ x, 0 ≤ x → x < i → a_sort s x = 7 → a_marked s x = 0 → t_place s (a_first s x) < 0
def SwI (s : S1) (i : Int32) : Prop := (0 ≤ f_used s ∧ f_used s ≤ 4000) ∧ Ball s ∧ Ov s ∧ Cv s ∧ q_Tp s ∧ q_Pq s i ∧ Dn s i
theorem threadGoes_ok (s : S1) (x : Int32) (h : SwI s x) (hx : 0 ≤ x ∧ x < f_used s) (h7 : a_sort s x = 7) (hm : a_marked s x = 0) : ok (M_Mo_threadGoes (a_first s x)) s (fun _ s' => Kp s s' ∧ SwI s' (x + 1)) := by
  obtain ⟨hu, hb, ho, hc, hp, hq, hd⟩ := h
  obtain ⟨b1, b2, b3⟩ := hb x hx.1 hx.2
  obtain ⟨t1, t2, t3⟩ := b3.2.2.1 h7
  have ex : t_place s (a_first s x) = x := hq x hx.1 hx.2 h7 (Or.inr (Int32.le_refl x))
  generalize et : a_first s x = t at *
  have hp0 : 0 ≤ t_place s t := by rw [ex]; exact hx.1
  obtain ⟨o1, o2⟩ := ho t t1 t2 hp0
  simp only [M_Mo_threadGoes, ok_B, ok_C, ok_R, ok_L, ok_K, ok_GI, ok_GL, ok_PI, ok_PL, ok_AI, ok_AL, ok_SI, ok_SL, ok_Pr, ok_CI, cmp_lt, cmp_le, cmp_gt, cmp_ge, cmp_eq, nar0, nar1, Sum.elim_inl, Sum.elim_inr]
  refine ok_mono (closeAll_ok s t ⟨t1, t2⟩ hu.2 hb ho hp0 t3.2.2.1) fun y s1 ⟨ey, ⟨g1, g2, g3, g4, g5, g6⟩, hb1⟩ => ?_
  subst ey
  have hTe : Te s1 (sI (sI (sI s1 3587 y 0) 3584 y (-1)) 39 0 (gI (sI (sI s1 3587 y 0) 3584 y (-1)) 39 0 - 1)) y (gI (sI (sI s1 3587 y 0) 3584 y (-1)) 39 0 - 1) := ⟨fun _ _ => rfl, fun _ _ _ => rfl, fun _ _ _ => rfl, fun f i => by simp only [gI_sI]⟩
  have hc39 : gI (sI (sI s1 3587 y 0) 3584 y (-1)) 39 0 - 1 = gI s 39 0 - 1 := by
    simp only [gI_sI, gI_sL, gI_sA, gI_sB, gI_sAf, gI_sBf, gL_sI, gL_sL, gL_sA, gL_sB, gL_sAf, gL_sBf, gA_sI, gA_sL, gA_sA, gA_sB, gA_sAf, gA_sBf, gB_sI, gB_sL, gB_sA, gB_sB, gB_sAf, gB_sBf, Nat.reduceEqDiff, Nat.reduceMul, Nat.reduceAdd, false_and, true_and, and_true, and_false, if_true, if_false]
    rw [g1 39 0 (by decide)]
  generalize sI (sI (sI s1 3587 y 0) 3584 y (-1)) 39 0 (gI (sI (sI s1 3587 y 0) 3584 y (-1)) 39 0 - 1) = s2 at *
  generalize gI (sI (sI s1 3587 y 0) 3584 y (-1)) 39 0 - 1 = c at *
  have hb2 := hb1.te hTe
  -- reads behind all
  have rA : ∀ a i j, a ≠ 5 → a ≠ 62 → gA s2 a i j = gA s a i j := fun a i j p q => (hTe.2.1 a i j).trans (g3 a i j p q)
  have rI : ∀ f i, f ≠ 66 → f ≠ 39 → f ≠ 3584 → f ≠ 3587 → gI s2 f i = gI s f i := fun f i p q r w => (hTe.I f ⟨q, r, w⟩ i).trans (g1 f i p)
  have rP : ∀ i, t_place s2 i = if i = y then -1 else t_place s i := fun i => by
    show gI s2 3584 i = _
    rw [hTe.P, g1 3584 i (by decide)]
  have rO : ∀ i, t_openCount s2 i = if i = y then 0 else t_openCount s i := fun i => by
    show gI s2 3587 i = _
    rw [hTe.O, g1 3587 i (by decide)]
  have rF : ∀ z, (∀ j, 0 ≤ j → j < t_openCount s y → z ≠ t_open s y j) → a_first s2 z = a_first s z := fun z q => (hTe.2.1 62 0 z).trans (g5 z q)
  have rN : ∀ j, 0 ≤ j → j < t_openCount s y → a_first s2 (t_open s y j) = -1 := fun j p q => (hTe.2.1 62 0 _).trans (g6 j p q)
  have rF8 : ∀ z, a_sort s z ≠ 8 → a_first s2 z = a_first s z := fun z q => rF z fun j p w e => q (by rw [e]; exact (o1 j p w).1.2.2.1)
  have rL : ∀ m z k, Lv m s2 z k ↔ Lv m s z k := fun m z k => by
    unfold Lv
    simp only [a_sort, a_tag, a_first, a_second, a_third, a_chain, a_free, a_text, a_heads, a_ek, a_ev, a_vk, a_vv, a_follow, a_bucket, a_registers, f_used, v_variable_k, v_variable_v, v_stack_k, v_stack_v, v_row_k, v_row_v, v_start_n, v_start_k, v_start_v, t_place, t_frames, t_openCount, t_open, t_kind, t_function, t_base, t_extra, t_rowCount, p_ek, p_vk, p_ev, p_vv, p_follow, a_marked, rA 58 _ _ (by decide) (by decide), rA 59 _ _ (by decide) (by decide), rI 40 _ (by decide) (by decide) (by decide) (by decide)]
  have rU : f_used s2 = f_used s := rI 40 0 (by decide) (by decide) (by decide) (by decide)
  have rS : ∀ z, a_sort s2 z = a_sort s z := fun z => rA 58 0 z (by decide) (by decide)
  have rM : ∀ z, a_marked s2 z = a_marked s z := fun z => rA 59 0 z (by decide) (by decide)
  have rT : ∀ i k, t_open s2 i k = t_open s i k := fun i k => rA 29 i k (by decide) (by decide)
  have neg : ¬ (0 : Int32) ≤ -1 := by decide
  refine ⟨⟨rI, fun f i p => (hTe.1 f i).trans (g2 f i p), rA, fun a i j p => (hTe.2.2.1 a i j).trans (g4 a i j p), rF8, fun i hi => ?_, ⟨fun i => ?_, fun ht => ?_⟩⟩, by rw [rU]; exact hu, hb2, ?_, ?_, ?_, ?_, ?_⟩
  · rw [rP, if_neg]
    intro e
    rw [e, ex] at hi
    exact hi hm
  · rw [rP]
    by_cases d : i = y
    · rw [if_pos d]
      exact Or.inr rfl
    · rw [if_neg d]
      exact Or.inl rfl
  · have q1 : tcn s = tcn s2 + 1 := tcn_one ⟨t1, t2⟩ (by rw [rP, if_pos rfl]; exact neg) hp0 fun i d => by rw [rP, if_neg d]
    have q2 : gI s2 39 0 = c := by
      rw [hTe.2.2.2 39 0, if_pos ⟨rfl, rfl⟩]
    show gI s2 39 0 = Int32.ofNat (tcn s2)
    rw [q2, hc39, ← ofNat_pred, ← q1, ← ht]
  · -- Ov
    intro i i1 i2 i3
    rw [rP] at i3
    by_cases d : i = y
    · rw [if_pos d] at i3
      exact absurd i3 neg
    rw [if_neg d] at i3
    obtain ⟨w1, w2⟩ := ho i i1 i2 i3
    rw [rO, if_neg d]
    simp only [rT, rL]
    refine ⟨fun k k1 k2 => ⟨(w1 k k1 k2).1, ?_⟩, w2⟩
    rw [rF]
    · exact (w1 k k1 k2).2
    · intro j p q e
      have e1 := (w1 k k1 k2).2
      rw [e, (o1 j p q).2] at e1
      exact d e1.symm
  · -- Cv
    intro z hz hf
    rw [rL] at hz
    have nz : ∀ j, 0 ≤ j → j < t_openCount s y → z ≠ t_open s y j := fun j p q e => by
      rw [e, rN j p q] at hf
      exact neg hf
    have ez := rF z nz
    rw [ez] at hf ⊢
    obtain ⟨c1, k, c2, c3, c4⟩ := hc z hz hf
    have d : a_first s z ≠ y := fun e => by
      rw [e] at c3 c4
      exact nz k c2 c3 c4.symm
    rw [rP, rO, if_neg d, if_neg d]
    exact ⟨c1, k, c2, c3, by rw [rT]; exact c4⟩
  · -- q_Tp
    intro i i1 i2 i3
    rw [rP] at i3 ⊢
    by_cases d : i = y
    · rw [if_pos d] at i3
      exact absurd i3 neg
    rw [if_neg d] at i3 ⊢
    obtain ⟨w1, w2⟩ := hp i i1 i2 i3
    rw [rL, rF8 _ (by rw [w1.2.2.1]; decide)]
    exact ⟨w1, w2⟩
  · -- q_Pq
    intro z z1 z2 z3 z4
    rw [rS] at z3
    rw [rM] at z4
    rw [rU] at z2
    rw [rF8 _ (by rw [z3]; decide), rP]
    have z5 : a_marked s z ≠ 0 ∨ x ≤ z := z4.imp id fun w => by
      have := hx.2
      have := hu.2
      clear hb ho hc hp hq hd b1 b2 b3 o1 o2 g1 g2 g3 g4 g5 g6 hb1 hTe hb2 rA rI rP rO rF rN rF8 rL rS rM rT t3
      grind
    have e := hq z z1 z2 z3 z5
    rw [if_neg]
    · exact e
    · intro d
      rw [d, ex] at e
      rcases z4 with w | w
      · rw [← e] at w
        exact w hm
      · have := hx.2
        have := hu.2
        clear hb ho hc hp hq hd b1 b2 b3 o1 o2 g1 g2 g3 g4 g5 g6 hb1 hTe hb2 rA rI rP rO rF rN rF8 rL rS rM rT t3
        grind
  · -- Dn
    intro z z1 z2 z3 z4
    rw [rS] at z3
    rw [rM] at z4
    rw [rF8 _ (by rw [z3]; decide), rP]
    by_cases d : a_first s z = y
    · rw [if_pos d]
      decide
    · rw [if_neg d]
      have z5 : z ≠ x := fun e => d (by rw [e]; exact et)
      exact hd z z1 (by
        have := hx.2
        have := hu.2
        clear hb ho hc hp hq hd b1 b2 b3 o1 o2 g1 g2 g3 g4 g5 g6 hb1 hTe hb2 rA rI rP rO rF rN rF8 rL rS rM rT t3
        grind) z3 z4
theorem SwI.skip {s : S1} {x : Int32} (h : SwI s x) (hx : 0 ≤ x ∧ x < f_used s) (hs : a_sort s x ≠ 7 ∨ a_marked s x ≠ 0) : SwI s (x + 1) := by
  obtain ⟨hu, hb, ho, hc, hp, hq, hd⟩ := h
  have st : ∀ z, x + 1 ≤ z → x ≤ z := fun z w => by
    have := hx.2
    have := hu.2
    clear hb ho hc hp hq hd
    grind
  have st2 : ∀ z, z < x + 1 → z = x ∨ z < x := fun z w => by
    have := hx.2
    have := hu.2
    clear hb ho hc hp hq hd st
    grind
  refine ⟨hu, hb, ho, hc, hp, fun z a b c d => hq z a b c (d.imp id (st z)), fun z a b c d => ?_⟩
  rcases st2 z b with e | e
  · subst e
    rcases hs with w | w
    · exact absurd c w
    · exact absurd d w
  · exact hd z a e c d
theorem sweep1_ok (s : S1) (a : Int32) (b : Int64) (h : SwI s 0) : ok (oW M_Mo_sweep_L13 (a, b, 0)) s (fun y s' => y = (a, b) ∧ Kp s s' ∧ SwI s' (f_used s')) := by
  have hu := h.1
  refine ok_W (fun y s' => y.1 = a ∧ y.2.1 = b ∧ (0 ≤ y.2.2 ∧ y.2.2 ≤ f_used s) ∧ Kp s s' ∧ SwI s' y.2.2) (fun y _ => (f_used s - y.2.2).toNatClampNeg) ?_ _ _ ⟨rfl, rfl, ⟨(show (0 : Int32) ≤ 0 by decide), hu.1⟩, Kp.refl s, h⟩
  rintro ⟨a', b', x⟩ s1 ⟨e1, e2, ⟨h1, h2⟩, hk, hi⟩
  dsimp only at e1 e2 h1 h2 hi
  subst e1 e2
  simp only [M_Mo_sweep_L13, M_Mo_sweep_j73, ok_B, ok_C, ok_R, ok_L, ok_K, ok_GI, ok_GL, ok_PI, ok_PL, ok_AI, ok_AL, ok_SI, ok_SL, ok_Pr, ok_CI, cmp_lt, cmp_le, cmp_gt, cmp_ge, cmp_eq, nar0, nar1, Sum.elim_inl, Sum.elim_inr]
  have eu : gI s1 40 0 = f_used s := hk.1 40 0 (by decide) (by decide) (by decide) (by decide)
  have eu' : f_used s1 = f_used s := eu
  rw [eu]
  have nn : x < f_used s → (0 ≤ x ∧ x < 4100) ∧ (0 ≤ x + 1 ∧ x + 1 ≤ f_used s) ∧ (f_used s - (x + 1)).toNatClampNeg < (f_used s - x).toNatClampNeg := fun c => by
    clear hk hi h
    exact ⟨by grind, by grind, clamp_lt (by grind) (by grind)⟩
  refine ⟨fun c => ⟨by trivial, hk, ?_⟩, fun c => ?_⟩
  · rw [eu', ← Int32.le_antisymm h2 c]
    exact hi
  have hlt := Int32.not_le.mp c
  obtain ⟨n1, n2, n3⟩ := nn hlt
  have hx : 0 ≤ x ∧ x < f_used s1 := ⟨h1, by rw [eu']; exact hlt⟩
  refine ⟨n1, fun d => ⟨⟨by trivial, by trivial, n2, hk, hi.skip hx (Or.inl (by show gA s1 58 0 x ≠ 7; rw [d]; decide))⟩, n3⟩, fun d => ⟨n1, fun e => ⟨n1, fun f => ⟨n1, ?_⟩, fun f => ?_⟩, fun e => ?_⟩⟩
  · obtain ⟨q1, q2, q3⟩ := (hi.2.1 x hx.1 hx.2).2.2.2.2.1 f
    refine ⟨⟨q1, q2⟩, ok_mono (threadGoes_ok s1 x hi hx f e) fun _ s2 ⟨hk2, hi2⟩ => ⟨⟨by trivial, by trivial, n2, hk.trans hk2, hi2⟩, n3⟩⟩
  · exact ⟨⟨by trivial, by trivial, n2, hk, hi.skip hx (Or.inl f)⟩, n3⟩
  · exact ⟨⟨by trivial, by trivial, n2, hk, hi.skip hx (Or.inr e)⟩, n3⟩
