/-! A collection, whole. -/
theorem Ov.cr {s s' : S1} (h : Ov s) (hs : Cr false s s') : Ov s' := by
  intro t t1 t2 t3
  have := h t t1 t2
  simp only [a_sort, a_tag, a_first, a_second, a_third, a_chain, a_free, a_text, a_heads, a_ek, a_ev, a_vk, a_vv, a_follow, a_bucket, a_registers, f_used, v_variable_k, v_variable_v, v_stack_k, v_stack_v, v_row_k, v_row_v, v_start_n, v_start_k, v_start_v, t_place, t_frames, t_openCount, t_open, t_kind, t_function, t_base, t_extra, t_rowCount, p_ek, p_vk, p_ev, p_vv, p_follow, hs.A 5 (by decide), hs.A 20 (by decide), hs.A 23 (by decide), hs.A 26 (by decide), hs.A 29 (by decide), hs.A 30 (by decide), hs.A 31 (by decide), hs.A 32 (by decide), hs.A 33 (by decide), hs.A 34 (by decide), hs.A 35 (by decide), hs.A 36 (by decide), hs.A 44 (by decide), hs.A 58 (by decide), hs.A 60 (by decide), hs.A 61 (by decide), hs.A 62 (by decide), hs.A 63 (by decide), hs.A 64 (by decide), hs.A 65 (by decide), hs.A 66 (by decide), hs.A 67 (by decide), hs.A 68 (by decide), hs.A 69 (by decide), hs.A 70 (by decide), hs.A 73 (by decide), hs.B 6, hs.B 21, hs.B 24, hs.B 27, hs.B 71, hs.B 72, hs.I 40 (by decide), hs.I 3202 (by decide), hs.I 3584 (by decide), hs.I 3586 (by decide), hs.I 3587 (by decide), hs.I 8959 (by decide), hs.I 9087 (by decide), hs.I 9215 (by decide), hs.I 9343 (by decide), hs.I 9471 (by decide)] at *
  exact ⟨fun k a b => ⟨((this t3).1 k a b).1.cr hs, ((this t3).1 k a b).2⟩, (this t3).2⟩
theorem Lv.crb {s s' : S1} {x k : Int32} (h : Lv false s' x k) (hs : Cr false s s') : Lv false s x k := by
  unfold Lv at *
  simp only [a_sort, a_tag, a_first, a_second, a_third, a_chain, a_free, a_text, a_heads, a_ek, a_ev, a_vk, a_vv, a_follow, a_bucket, a_registers, f_used, v_variable_k, v_variable_v, v_stack_k, v_stack_v, v_row_k, v_row_v, v_start_n, v_start_k, v_start_v, t_place, t_frames, t_openCount, t_open, t_kind, t_function, t_base, t_extra, t_rowCount, p_ek, p_vk, p_ev, p_vv, p_follow, hs.A 5 (by decide), hs.A 20 (by decide), hs.A 23 (by decide), hs.A 26 (by decide), hs.A 29 (by decide), hs.A 30 (by decide), hs.A 31 (by decide), hs.A 32 (by decide), hs.A 33 (by decide), hs.A 34 (by decide), hs.A 35 (by decide), hs.A 36 (by decide), hs.A 44 (by decide), hs.A 58 (by decide), hs.A 60 (by decide), hs.A 61 (by decide), hs.A 62 (by decide), hs.A 63 (by decide), hs.A 64 (by decide), hs.A 65 (by decide), hs.A 66 (by decide), hs.A 67 (by decide), hs.A 68 (by decide), hs.A 69 (by decide), hs.A 70 (by decide), hs.A 73 (by decide), hs.B 6, hs.B 21, hs.B 24, hs.B 27, hs.B 71, hs.B 72, hs.I 40 (by decide), hs.I 3202 (by decide), hs.I 3584 (by decide), hs.I 3586 (by decide), hs.I 3587 (by decide), hs.I 8959 (by decide), hs.I 9087 (by decide), hs.I 9215 (by decide), hs.I 9343 (by decide), hs.I 9471 (by decide)] at *
  exact ⟨h.1, h.2.1, h.2.2.1, fun z => by cases z⟩
theorem Cv.cr {s s' : S1} (h : Cv s) (hs : Cr false s s') : Cv s' := by
  intro x hx hf
  have := h x (hx.crb hs)
  simp only [a_sort, a_tag, a_first, a_second, a_third, a_chain, a_free, a_text, a_heads, a_ek, a_ev, a_vk, a_vv, a_follow, a_bucket, a_registers, f_used, v_variable_k, v_variable_v, v_stack_k, v_stack_v, v_row_k, v_row_v, v_start_n, v_start_k, v_start_v, t_place, t_frames, t_openCount, t_open, t_kind, t_function, t_base, t_extra, t_rowCount, p_ek, p_vk, p_ev, p_vv, p_follow, hs.A 5 (by decide), hs.A 20 (by decide), hs.A 23 (by decide), hs.A 26 (by decide), hs.A 29 (by decide), hs.A 30 (by decide), hs.A 31 (by decide), hs.A 32 (by decide), hs.A 33 (by decide), hs.A 34 (by decide), hs.A 35 (by decide), hs.A 36 (by decide), hs.A 44 (by decide), hs.A 58 (by decide), hs.A 60 (by decide), hs.A 61 (by decide), hs.A 62 (by decide), hs.A 63 (by decide), hs.A 64 (by decide), hs.A 65 (by decide), hs.A 66 (by decide), hs.A 67 (by decide), hs.A 68 (by decide), hs.A 69 (by decide), hs.A 70 (by decide), hs.A 73 (by decide), hs.B 6, hs.B 21, hs.B 24, hs.B 27, hs.B 71, hs.B 72, hs.I 40 (by decide), hs.I 3202 (by decide), hs.I 3584 (by decide), hs.I 3586 (by decide), hs.I 3587 (by decide), hs.I 8959 (by decide), hs.I 9087 (by decide), hs.I 9215 (by decide), hs.I 9343 (by decide), hs.I 9471 (by decide)] at *
  exact this hf
theorem q_Tp.cr {s s' : S1} (h : q_Tp s) (hs : Cr false s s') : q_Tp s' := by
  intro t t1 t2 t3
  have := h t t1 t2
  simp only [a_sort, a_tag, a_first, a_second, a_third, a_chain, a_free, a_text, a_heads, a_ek, a_ev, a_vk, a_vv, a_follow, a_bucket, a_registers, f_used, v_variable_k, v_variable_v, v_stack_k, v_stack_v, v_row_k, v_row_v, v_start_n, v_start_k, v_start_v, t_place, t_frames, t_openCount, t_open, t_kind, t_function, t_base, t_extra, t_rowCount, p_ek, p_vk, p_ev, p_vv, p_follow, hs.A 5 (by decide), hs.A 20 (by decide), hs.A 23 (by decide), hs.A 26 (by decide), hs.A 29 (by decide), hs.A 30 (by decide), hs.A 31 (by decide), hs.A 32 (by decide), hs.A 33 (by decide), hs.A 34 (by decide), hs.A 35 (by decide), hs.A 36 (by decide), hs.A 44 (by decide), hs.A 58 (by decide), hs.A 60 (by decide), hs.A 61 (by decide), hs.A 62 (by decide), hs.A 63 (by decide), hs.A 64 (by decide), hs.A 65 (by decide), hs.A 66 (by decide), hs.A 67 (by decide), hs.A 68 (by decide), hs.A 69 (by decide), hs.A 70 (by decide), hs.A 73 (by decide), hs.B 6, hs.B 21, hs.B 24, hs.B 27, hs.B 71, hs.B 72, hs.I 40 (by decide), hs.I 3202 (by decide), hs.I 3584 (by decide), hs.I 3586 (by decide), hs.I 3587 (by decide), hs.I 8959 (by decide), hs.I 9087 (by decide), hs.I 9215 (by decide), hs.I 9343 (by decide), hs.I 9471 (by decide)] at *
  exact ⟨(this t3).1.cr hs, (this t3).2⟩
theorem Str.kp {s s' : S1} (h : Str s) (hs : Kp s s') : Str s' := by
  have A : ∀ a, a ≠ 5 ∧ a ≠ 62 → ∀ j, gA s' a 0 j = gA s a 0 j := fun a p j => hs.2.2.1 a 0 j p.1 p.2
  have I : ∀ f, (f ≠ 66 ∧ f ≠ 39 ∧ f ≠ 3584 ∧ f ≠ 3587) → ∀ j, gI s' f j = gI s f j := fun f p j => hs.1 f j p.1 p.2.1 p.2.2.1 p.2.2.2
  have F : ∀ z, gA s 58 0 z = 4 → gA s' 62 0 z = gA s 62 0 z := fun z p => hs.2.2.2.2.1 z (by show gA s 58 0 z ≠ 8; rw [p]; decide)
  have g : ∀ z k, Sg s' z k ↔ Sg s z k := fun z k => by
    unfold Sg
    simp only [a_sort, a_tag, a_first, a_second, a_third, a_chain, a_free, a_text, a_heads, a_ek, a_ev, a_vk, a_vv, a_follow, a_bucket, a_registers, f_used, v_variable_k, v_variable_v, v_stack_k, v_stack_v, v_row_k, v_row_v, v_start_n, v_start_k, v_start_v, t_place, t_frames, t_openCount, t_open, t_kind, t_function, t_base, t_extra, t_rowCount, p_ek, p_vk, p_ev, p_vv, p_follow, A 58 (by decide), A 63 (by decide), I 40 (by decide), hF_congr (A 67 (by decide))]
    constructor
    · rintro ⟨a, b, c, d⟩
      rw [F z c] at d
      exact ⟨a, b, c, d⟩
    · rintro ⟨a, b, c, d⟩
      rw [← F z c] at d
      exact ⟨a, b, c, d⟩
  obtain ⟨t1, t2, t3, t4, t5, t6⟩ := h
  refine ⟨?_, ?_, ?_⟩
  · simp only [f_textMade, I 38 (by decide)]
    exact t1
  · intro x a b
    have b' : x < f_used s := by
      show x < gI s 40 0
      rw [← I 40 (by decide)]
      exact b
    have := t2 x a b'
    unfold StS at *
    simp only [a_sort, a_tag, a_first, a_second, a_third, a_chain, a_free, a_text, a_heads, a_ek, a_ev, a_vk, a_vv, a_follow, a_bucket, a_registers, f_used, v_variable_k, v_variable_v, v_stack_k, v_stack_v, v_row_k, v_row_v, v_start_n, v_start_k, v_start_v, t_place, t_frames, t_openCount, t_open, t_kind, t_function, t_base, t_extra, t_rowCount, p_ek, p_vk, p_ev, p_vv, p_follow, f_textMade, A 58 (by decide), A 63 (by decide), I 38 (by decide)] at *
    intro z
    rw [F x z]
    exact this z
  · unfold H1 H2 H3 H4 at *
    simp only [a_sort, a_tag, a_first, a_second, a_third, a_chain, a_free, a_text, a_heads, a_ek, a_ev, a_vk, a_vv, a_follow, a_bucket, a_registers, f_used, v_variable_k, v_variable_v, v_stack_k, v_stack_v, v_row_k, v_row_v, v_start_n, v_start_k, v_start_v, t_place, t_frames, t_openCount, t_open, t_kind, t_function, t_base, t_extra, t_rowCount, p_ek, p_vk, p_ev, p_vv, p_follow, g, A 61 (by decide), A 65 (by decide), A 68 (by decide)] at *
    exact ⟨t3, t4, t5, t6⟩
theorem Lv.kp {m : Bool} {s s' : S1} {x k : Int32} (hs : Kp s s') : Lv m s' x k ↔ Lv m s x k := by
  have A : ∀ a, a ≠ 5 ∧ a ≠ 62 → ∀ j, gA s' a 0 j = gA s a 0 j := fun a p j => hs.2.2.1 a 0 j p.1 p.2
  have I : gI s' 40 0 = gI s 40 0 := hs.1 40 0 (by decide) (by decide) (by decide) (by decide)
  unfold Lv
  simp only [a_sort, a_tag, a_first, a_second, a_third, a_chain, a_free, a_text, a_heads, a_ek, a_ev, a_vk, a_vv, a_follow, a_bucket, a_registers, f_used, v_variable_k, v_variable_v, v_stack_k, v_stack_v, v_row_k, v_row_v, v_start_n, v_start_k, v_start_v, t_place, t_frames, t_openCount, t_open, t_kind, t_function, t_base, t_extra, t_rowCount, p_ek, p_vk, p_ev, p_vv, p_follow, a_marked, A 58 (by decide), A 59 (by decide), I]
theorem Vl.kp {m : Bool} {s s' : S1} {k : Int32} {v : Int64} (hs : Kp s s') : Vl m s' k v ↔ Vl m s k v := by
  unfold Vl
  simp only [Lv.kp hs]
theorem Wl.kp {m : Bool} {s s' : S1} {k : Int32} {v : Int64} (hs : Kp s s') : Wl m s' k v ↔ Wl m s k v := by
  unfold Wl
  simp only [Vl.kp hs, Lv.kp hs]
theorem RtV.kp {s s' : S1} (h : RtV true s) (hs : Kp s s') : RtV true s' := by
  obtain ⟨h1, h2, h3, h4, h5, h6, h7, h8, h9, h10⟩ := h
  have A : ∀ a, a ≠ 5 ∧ a ≠ 62 → ∀ i j, gA s' a i j = gA s a i j := fun a p i j => hs.2.2.1 a i j p.1 p.2
  have I : ∀ f, (f ≠ 66 ∧ f ≠ 39 ∧ f ≠ 3584 ∧ f ≠ 3587) → ∀ j, gI s' f j = gI s f j := fun f p j => hs.1 f j p.1 p.2.1 p.2.2.1 p.2.2.2
  have L : ∀ f, f ≠ 67 → ∀ j, gL s' f j = gL s f j := fun f p j => hs.2.1 f j p
  have B : ∀ f, f ≠ 6 → ∀ i j, gB s' f i j = gB s f i j := fun f p i j => hs.2.2.2.1 f i j p
  have e := chN_I (I 72 (by decide) 0) (I 3590 (by decide))
  have hrw : ∀ r, (128 * r + 2 ≠ 66 ∧ 128 * r + 2 ≠ 39 ∧ 128 * r + 2 ≠ 3584 ∧ 128 * r + 2 ≠ 3587) → (r + 1 ≠ 5 ∧ r + 1 ≠ 62) → r + 2 ≠ 6 → RwV true s r → RwV true s' r := fun r a b d c => by
    unfold RwV at *
    simp only [I (128 * r + 2) a, A (r + 1) b, B (r + 2) d, Wl.kp hs]
    exact c
  refine ⟨?_, ?_, ?_, hrw _ (by decide) (by decide) (by decide) h4, hrw _ (by decide) (by decide) (by decide) h5, hrw _ (by decide) (by decide) (by decide) h6, ?_, hrw _ (by decide) (by decide) (by decide) h8, ?_, ?_⟩
  · rw [Lv.kp hs]
    show Lv true s (gI s' 74 0) 5
    rw [I 74 (by decide)]
    exact h1
  · rw [hs.2.2.2.2.2.1 0 (h2.2.2.2 rfl), Lv.kp hs]
    exact h2
  · intro n
    rw [e n]
    intro a
    rw [hs.2.2.2.2.2.1 _ ((h3 n a).2.2.2 rfl), Lv.kp hs]
    exact h3 n a
  · rw [Vl.kp hs]
    show Vl true s (gI s' 64 0) (gL s' 65 0)
    rw [I 64 (by decide), L 65 (by decide)]
    exact h7
  · rw [Vl.kp hs]
    show Vl true s (gI s' 75 0) (gL s' 76 0)
    rw [I 75 (by decide), L 76 (by decide)]
    exact h9
  · simp only [a_sort, a_tag, a_first, a_second, a_third, a_chain, a_free, a_text, a_heads, a_ek, a_ev, a_vk, a_vv, a_follow, a_bucket, a_registers, f_used, v_variable_k, v_variable_v, v_stack_k, v_stack_v, v_row_k, v_row_v, v_start_n, v_start_k, v_start_v, t_place, t_frames, t_openCount, t_open, t_kind, t_function, t_base, t_extra, t_rowCount, p_ek, p_vk, p_ev, p_vv, p_follow, a_marked, a_fixed, A 58 (by decide), A 59 (by decide), A 60 (by decide), I 40 (by decide)] at *
    exact h10
/-- what a collection leaves as it was -/
def Gc (s s' : S1) : Prop := (∀ f i, f ≠ 34 → f ≠ 35 → f ≠ 36 → f ≠ 39 → f ≠ 54 → f ≠ 66 → f ≠ 69 → f ≠ 3584 → f ≠ 3587 → gI s' f i = gI s f i) ∧ (∀ f i, f ≠ 67 → gL s' f i = gL s f i) ∧
  (∀ a i j, a ≠ 5 → a ≠ 58 → a ≠ 59 → a ≠ 62 → a ≠ 65 → a ≠ 66 → a ≠ 68 → a ≠ 75 → gA s' a i j = gA s a i j) ∧ (∀ a i j, a ≠ 6 → gB s' a i j = gB s a i j) ∧ (∀ z, a_sort s z ≠ 8 → a_first s' z = a_first s z) ∧ (∀ z, 0 ≤ z → z < f_used s → a_sort s' z = 0 ∨ a_sort s' z = a_sort s z) ∧
  (∀ x k, Lv false s x k → k ≠ 0 → a_fixed s x ≠ 0 → Lv false s' x k) ∧ PT s s'
theorem gc_ok (s : S1) (h : Hp s) : ok M_Mo_collection s (fun _ s' => Hp s' ∧ Gc s s') := by
  obtain ⟨hv, hst, hfr, hov, hcv, htp, hrs, hrv⟩ := h
  refine collection_ok s hv hrs hrv fun s1 ⟨c1, v1, r1, t1, p1⟩ => ?_
  have hI : SwI s1 0 := by
    refine ⟨r1.2.2.2.2.2.2, fun x a b => ⟨(v1.2.2 x a b).2, p1 x a b, (v1.2.2 x a b).1.n⟩, hov.cr c1, hcv.cr c1, htp.cr c1, fun x a b c _ => ((v1.2.2 x a b).1.2.2.1 c).2.2.1, fun x a b => absurd (Int32.lt_of_le_of_lt a b) Int32.lt_irrefl⟩
  have hst1 : Str s1 := hst.sq ⟨fun a j ha => c1.A a (by rcases ha with w | w | w | w | w | w | w <;> rw [w] <;> decide) 0 j, c1.I 40 (by decide) 0, c1.I 38 (by decide) 0⟩
  simp only [M_Mo_sweep, ok_B, ok_C, ok_R, ok_L, ok_K, ok_GI, ok_GL, ok_PI, ok_PL, ok_AI, ok_AL, ok_SI, ok_SL, ok_Pr, ok_CI, cmp_lt, cmp_le, cmp_gt, cmp_ge, cmp_eq, nar0, nar1, Sum.elim_inl, Sum.elim_inr]
  refine ok_mono (sweep1_ok s1 _ _ hI) fun y s2 ⟨ey, kp, hI2⟩ => ?_
  subst ey
  have hst2 := hst1.kp kp
  have A : ∀ a, a ≠ 5 ∧ a ≠ 62 → ∀ i j, gA s2 a i j = gA s1 a i j := fun a p i j => kp.2.2.1 a i j p.1 p.2
  have I : ∀ f, (f ≠ 66 ∧ f ≠ 39 ∧ f ≠ 3584 ∧ f ≠ 3587) → ∀ j, gI s2 f j = gI s1 f j := fun f p j => kp.1 f j p.1 p.2.1 p.2.2.1 p.2.2.2
  have hfr2 : Frl s2 := by
    have hs := c1
    unfold Frl at *
    simp only [a_sort, a_tag, a_first, a_second, a_third, a_chain, a_free, a_text, a_heads, a_ek, a_ev, a_vk, a_vv, a_follow, a_bucket, a_registers, f_used, v_variable_k, v_variable_v, v_stack_k, v_stack_v, v_row_k, v_row_v, v_start_n, v_start_k, v_start_v, t_place, t_frames, t_openCount, t_open, t_kind, t_function, t_base, t_extra, t_rowCount, p_ek, p_vk, p_ev, p_vv, p_follow, f_freed, f_existing, A 58 (by decide), A 66 (by decide), I 40 (by decide), I 34 (by decide), I 54 (by decide), hs.A 5 (by decide), hs.A 20 (by decide), hs.A 23 (by decide), hs.A 26 (by decide), hs.A 29 (by decide), hs.A 30 (by decide), hs.A 31 (by decide), hs.A 32 (by decide), hs.A 33 (by decide), hs.A 34 (by decide), hs.A 35 (by decide), hs.A 36 (by decide), hs.A 44 (by decide), hs.A 58 (by decide), hs.A 60 (by decide), hs.A 61 (by decide), hs.A 62 (by decide), hs.A 63 (by decide), hs.A 64 (by decide), hs.A 65 (by decide), hs.A 66 (by decide), hs.A 67 (by decide), hs.A 68 (by decide), hs.A 69 (by decide), hs.A 70 (by decide), hs.A 73 (by decide), hs.B 6, hs.B 21, hs.B 24, hs.B 27, hs.B 71, hs.B 72, hs.I 40 (by decide), hs.I 3202 (by decide), hs.I 3584 (by decide), hs.I 3586 (by decide), hs.I 3587 (by decide), hs.I 8959 (by decide), hs.I 9087 (by decide), hs.I 9215 (by decide), hs.I 9343 (by decide), hs.I 9471 (by decide), hs.I 34 (by decide), hs.I 54 (by decide)] at *
    exact hfr
  have hrm2 : Rm s2 := by
    have := v1.1
    unfold Rm at *
    simp only [p_ek, p_vk, p_ev, p_vv, p_follow, p_bucket, I 8959 (by decide), I 9087 (by decide), I 9215 (by decide), I 9343 (by decide), I 9471 (by decide), I 9599 (by decide)] at *
    exact this
  have htop2 : 0 ≤ f_entryTop s2 ∧ f_entryTop s2 ≤ 300000 := by
    have := v1.2.1
    simp only [f_entryTop, I 41 (by decide)] at *
    exact this
  have hrs2 : RtS s2 := by
    obtain ⟨q1, ⟨ρ, q2⟩, q3⟩ := r1
    unfold RtS
    refine ⟨?_, ⟨ρ, ?_⟩, ?_⟩
    · show 0 ≤ gI s2 72 0 ∧ gI s2 72 0 < 33
      rw [I 72 (by decide)]
      exact q1
    · unfold Rk
      simp only [t_resumer, I 3590 (by decide)]
      exact q2
    · simp only [v_hand_n, v_args_n, v_results_n, v_ended_n, f_used, I 2050 (by decide), I 898 (by decide), I 1282 (by decide), I 1666 (by decide), I 40 (by decide)] at *
      exact q3
  have hrv2 := t1.kp kp
  refine ok_mono (sweep2_ok s2 _ _ hI2 hst2 hfr2) fun y s3 ⟨ey, r3, hst3, hfr3⟩ => ?_
  subst ey
  dsimp only
  generalize gI s1 66 0 = g
  generalize gL s1 67 0 = w
  have hF : F3 s2 (sL (sI s3 66 0 g) 67 0 w) := by
    obtain ⟨q1, q2, q3, q4, q5, q6⟩ := r3
    refine ⟨fun f j a b c d => ?_, fun f j a => ?_, q3, q4, fun z a b => ?_, q6⟩
    · rw [gI_sL, gI_sI, if_neg (fun z => d z.1)]
      exact q1 f j a b c
    · rw [gL_sL, if_neg (fun z => a z.1), gL_sI]
      exact q2 f j
    · have := q5 z a b
      simp only [b, true_and] at this
      exact this
  have hst4 : Str (sL (sI s3 66 0 g) 67 0 w) := hst3.sq ⟨fun _ _ _ => rfl, by simp only [gI_sI, gI_sL, gI_sA, gI_sB, gI_sAf, gI_sBf, gL_sI, gL_sL, gL_sA, gL_sB, gL_sAf, gL_sBf, gA_sI, gA_sL, gA_sA, gA_sB, gA_sAf, gA_sBf, gB_sI, gB_sL, gB_sA, gB_sB, gB_sAf, gB_sBf, Nat.reduceEqDiff, Nat.reduceMul, Nat.reduceAdd, false_and, true_and, and_true, and_false, if_true, if_false], by simp only [gI_sI, gI_sL, gI_sA, gI_sB, gI_sAf, gI_sBf, gL_sI, gL_sL, gL_sA, gL_sB, gL_sAf, gL_sBf, gA_sI, gA_sL, gA_sA, gA_sB, gA_sAf, gA_sBf, gB_sI, gB_sL, gB_sA, gB_sB, gB_sAf, gB_sBf, Nat.reduceEqDiff, Nat.reduceMul, Nat.reduceAdd, false_and, true_and, and_true, and_false, if_true, if_false]⟩
  have hfr4 : Frl (sL (sI s3 66 0 g) 67 0 w) := by
    unfold Frl at *
    simp only [a_sort, a_tag, a_first, a_second, a_third, a_chain, a_free, a_text, a_heads, a_ek, a_ev, a_vk, a_vv, a_follow, a_bucket, a_registers, f_used, v_variable_k, v_variable_v, v_stack_k, v_stack_v, v_row_k, v_row_v, v_start_n, v_start_k, v_start_v, t_place, t_frames, t_openCount, t_open, t_kind, t_function, t_base, t_extra, t_rowCount, p_ek, p_vk, p_ev, p_vv, p_follow, f_freed, f_existing, gI_sI, gI_sL, gI_sA, gI_sB, gI_sAf, gI_sBf, gL_sI, gL_sL, gL_sA, gL_sB, gL_sAf, gL_sBf, gA_sI, gA_sL, gA_sA, gA_sB, gA_sAf, gA_sBf, gB_sI, gB_sL, gB_sA, gB_sB, gB_sAf, gB_sBf, Nat.reduceEqDiff, Nat.reduceMul, Nat.reduceAdd, false_and, true_and, and_true, and_false, if_true, if_false] at *
    exact hfr3
  refine ⟨Hp.f3 hI2 hrm2 htop2 hrs2 hrv2 hF hst4 hfr4, fun f i a1 a2 a3 a4 a5 a6 a7 a8 a9 => ?_, fun f i a => ?_, fun a i j a1 a2 a3 a4 a5 a6 a7 a8 => ?_, fun a i j a1 => ?_, fun z hz => ?_, fun z za zb => ?_, fun x k hx hk hfx => ?_, ?_⟩
  · exact (hF.1 f i a1 a3 a5 a6).trans ((kp.1 f i a6 a4 a8 a9).trans (c1.1.1 f i a2 a6 a7))
  · exact (hF.2.1 f i a).trans ((kp.2.1 f i a).trans (c1.1.2.1 f i a))
  · exact (hF.2.2.1 a i j a2 a5 a6 a7).trans ((kp.2.2.1 a i j a1 a4).trans (c1.1.2.2.1 a i j a3 a8))
  · exact (hF.2.2.2.1 a i j).trans ((kp.2.2.2.1 a i j a1).trans (c1.1.2.2.2 a i j))
  · have e1 : a_first s1 z = a_first s z := c1.A 62 (by decide) 0 z
    have e2 : a_sort s1 z = a_sort s z := c1.A 58 (by decide) 0 z
    exact (hF.A 62 (by decide) 0 z).trans ((kp.2.2.2.2.1 z (by rw [e2]; exact hz)).trans e1)
  · have e1 : a_sort s1 z = a_sort s z := c1.A 58 (by decide) 0 z
    have e2 : a_sort s2 z = a_sort s1 z := A 58 (by decide) 0 z
    have u1 : f_used s1 = f_used s := c1.I 40 (by decide) 0
    have u2 : f_used s2 = f_used s1 := I 40 (by decide) 0
    have e3 := hF.2.2.2.2.1 z za (by rw [u2, u1]; exact zb)
    by_cases m : a_marked s2 z = 0
    · rw [if_pos m] at e3
      exact Or.inl e3
    · rw [if_neg m] at e3
      exact Or.inr (e3.trans (e2.trans e1))
  · have l1 := hx.cr c1
    have l2 : a_marked s1 x ≠ 0 := t1.2.2.2.2.2.2.2.2.2 x l1.1 l1.2.1 (by rw [l1.2.2.1]; exact hk) (by show gA s1 60 0 x ≠ 0; rw [c1.A 60 (by decide)]; exact hfx) rfl
    have l3 : Lv true s1 x k := ⟨l1.1, l1.2.1, l1.2.2.1, fun _ => l2⟩
    exact ((Lv.kp kp).mpr l3).f3 hF
  · exact (PT.same (fun t => c1.I 3584 (by decide) t) (c1.I 39 (by decide) 0)).trans (kp.2.2.2.2.2.2.trans (PT.same (fun t => hF.1 3584 t (by decide) (by decide) (by decide) (by decide)) (hF.1 39 0 (by decide) (by decide) (by decide) (by decide))))
