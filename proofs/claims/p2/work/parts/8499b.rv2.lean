/-! The reference: the limit. -/
theorem GG.lim {s : S1} {x : Int32} (h : GG s) (hx : x ≤ 4000) : GG (sI s 32 0 x) := by
  obtain ⟨hm, hn, he, hr, ht⟩ := h
  have hh : Hs s (sI s 32 0 x) := ⟨fun _ _ _ _ => rfl, fun _ _ _ _ => rfl, fun f i q => by rw [gI_sI, if_neg (fun z => by omega)]⟩
  have I : ∀ f i, f ≠ 32 → gI (sI s 32 0 x) f i = gI s f i := fun f i q => by rw [gI_sI, if_neg (fun z => q z.1)]
  have l32 : gI (sI s 32 0 x) 32 0 = x := by rw [gI_sI, if_pos ⟨rfl, rfl⟩]
  have L : ∀ f i, gL (sI s 32 0 x) f i = gL s f i := fun _ _ => rfl
  have A : ∀ f i j, gA (sI s 32 0 x) f i j = gA s f i j := fun _ _ _ => rfl
  have B : ∀ f i j, gB (sI s 32 0 x) f i j = gB s f i j := fun _ _ _ => rfl
  generalize sI s 32 0 x = s' at hh I l32 L A B ⊢
  have hr' : Rws s' := by
    unfold Rws RvV RwV at *
    simp only [Vl.hs hh, Wl.hs hh] at *
    simp only [v_hand_n, v_args_n, v_results_n, v_ended_n, f_errorKind, f_errorValue, f_calledKind, f_called, Nat.reduceMul, Nat.reduceAdd, I 2050 _ (by decide), I 898 _ (by decide), I 1282 _ (by decide), I 1666 _ (by decide), I 64 _ (by decide), I 75 _ (by decide), L, A, B] at *
    exact hr
  have nm : Nm s' := by
    unfold Nm at *
    simp only [f_entryTop, f_roomAll, f_textMade, f_textAll, f_made, f_madeAll, f_limit, f_used, a_sort, a_tag, a_second, A, I 41 _ (by decide), I 43 _ (by decide), I 38 _ (by decide), I 44 _ (by decide), I 33 _ (by decide), I 42 _ (by decide), I 40 _ (by decide), l32] at *
    exact ⟨hn.1, hn.2.1, hn.2.2.1, hx, hn.2.2.2.2⟩
  have ex : Ex s' := by
    unfold Ex q_Dj q_Rg Tch Fu at *
    simp only [f_used, f_protos, a_sort, a_first, a_second, a_third, a_bucket, a_follow, a_upvalues, A, I 40 _ (by decide), I 23 _ (by decide)] at *
    exact he
  refine ⟨⟨hm.1.hs hh, fun z => ?_⟩, nm, ex, hr', (PT.same (fun t => I 3584 t (by decide)) (I 39 0 (by decide))).2 ht⟩
  have z' : f_noCollection s = 0 := (I 92 0 (by decide)).symm.trans z
  obtain ⟨⟨r1, ⟨ρ, r2⟩, r3⟩, q1, q2, q3, -⟩ := hm.2 z'
  obtain ⟨n1, n2, n3, n4, w1, w2, w3, w4, er, ca⟩ := hr'
  have e := chN_I (I 72 0 (by decide)) (fun i => I 3590 i (by decide))
  refine ⟨⟨?_, ⟨ρ, ?_⟩, n1, n2, n3, n4, ?_⟩, ?_, ?_, ?_, w1, w2.w, w3.w, er, w4.w, ca, fun _ _ _ _ _ z => by cases z⟩
  · show 0 ≤ gI s' 72 0 ∧ gI s' 72 0 < 33
    rw [I 72 0 (by decide)]
    exact r1
  · unfold Rk
    simp only [t_resumer, I 3590 _ (by decide)]
    exact r2
  · show 0 ≤ gI s' 40 0 ∧ gI s' 40 0 ≤ 4000
    rw [I 40 0 (by decide)]
    exact hm.1.2.2.2.2.2.2
  · rw [Lv.hs hh]
    show Lv false s (gI s' 74 0) 5
    rw [I 74 0 (by decide)]
    exact q1
  · rw [Lv.hs hh]
    show Lv false s (gI s' 3584 0) 7
    rw [I 3584 0 (by decide)]
    exact q2
  · intro n
    rw [e n, Lv.hs hh]
    show _ → Lv false s (gI s' 3584 _) 7
    rw [I 3584 _ (by decide)]
    exact q3 n
theorem Out.lim {s : S1} {x : Int32} (h : Out s) (hx : x ≤ 4000) : Out (sI s 32 0 x) := by
  obtain ⟨g, z, hh, o⟩ := h
  have hz : Hz s (sI s 32 0 x) := ⟨fun f i q => by rw [gI_sI, if_neg (fun z => by rw [z.1] at q; exact absurd q (by decide))], fun _ _ _ _ => rfl, fun _ _ => rfl⟩
  have I : ∀ f i, f ≠ 32 → gI (sI s 32 0 x) f i = gI s f i := fun f i q => by rw [gI_sI, if_neg (fun z => q z.1)]
  have A : ∀ f i j, gA (sI s 32 0 x) f i j = gA s f i j := fun _ _ _ => rfl
  have gl := g.lim hx
  generalize sI s 32 0 x = t at hz I A gl ⊢
  have fr : ∀ τ, Fr τ s → Fr τ t := fun τ f => f.hz hz
  refine ⟨gl, (I 92 0 (by decide)).trans z, (I 2050 0 (by decide)).trans hh, ?_⟩
  have e73 : f_todo t = f_todo s := I 73 0 (by decide)
  rw [e73]
  rcases o with ⟨a, b, c⟩ | ⟨a, b⟩ | ⟨a, b, c⟩ | ⟨a, b, c⟩
  · refine Or.inl ⟨a, fr _ b, c.of (I 72 0 (by decide)) ?_ fun x _ i j => A x i j⟩
    show gI t 3586 (gI t 72 0) - 1 = gI s 3586 (gI s 72 0) - 1
    rw [I 3586 _ (by decide), I 72 _ (by decide)]
  · exact Or.inr (Or.inl ⟨a, fr _ b⟩)
  · refine Or.inr (Or.inr (Or.inl ⟨a, fr _ b, ?_⟩))
    show gI t 898 0 ≤ 250
    rw [I 898 _ (by decide)]
    exact c
  · refine Or.inr (Or.inr (Or.inr ⟨a, fr _ b, ?_⟩))
    show gI t 1282 0 ≤ 250
    rw [I 1282 _ (by decide)]
    exact c
theorem Rs.lim {s : S1} {x : Int32} (h : Rs s) (hx : x ≤ 4000) : Rs (sI s 32 0 x) := by
  have I : ∀ f i, f ≠ 32 → gI (sI s 32 0 x) f i = gI s f i := fun f i q => by rw [gI_sI, if_neg (fun z => q z.1)]
  refine ⟨by rw [I 95 0 (by decide)]; exact h.1, ?_⟩
  rcases h.2 with h | h
  · exact .inl ⟨h.1.lim hx, (I 92 0 (by decide)).trans h.2.1, (I 2050 0 (by decide)).trans h.2.2.1, by rw [I 80 0 (by decide)]; exact h.2.2.2⟩
  · exact .inr (h.lim hx)
theorem Vz.lim {s : S1} {n e : Nat × Nat} {x : Int32} (h : Vz s n e) (hx : x ≤ 4000) : Vz (sI s 32 0 x) n e := by
  have I : ∀ f i, f ≠ 32 → gI (sI s 32 0 x) f i = gI s f i := fun f i q => by rw [gI_sI, if_neg (fun z => q z.1)]
  obtain ⟨h1, h2, ⟨ρ, h3⟩, h4, h5, h6, h7⟩ := h
  refine ⟨?_, ?_, ⟨ρ, ?_⟩, fun z => ?_, ?_, ?_, fun z => (h7 ?_).lim hx⟩
  · unfold f_size
    rw [I 1 0 (by decide)]
    exact h1
  · unfold Lf at h2 ⊢
    simp only [f_roomAll, f_textAll, f_madeAll, f_limit] at h2 ⊢
    rw [I 43 0 (by decide), I 44 0 (by decide), I 42 0 (by decide), gI_sI, if_pos ⟨rfl, rfl⟩]
    exact ⟨h2.1, h2.2.1, h2.2.2.1, hx⟩
  · unfold Rk at h3 ⊢
    simp only [t_resumer, I 3590 _ (by decide)] at h3 ⊢
    exact h3
  · rw [I 8959 0 (by decide)] at z
    obtain ⟨q1, q2, q3, q4, q5, q6⟩ := h4 z
    exact ⟨(I _ _ (by decide)).trans q1, (I _ _ (by decide)).trans q2, (I _ _ (by decide)).trans q3, (I _ _ (by decide)).trans q4, (I _ _ (by decide)).trans q5, (I _ _ (by decide)).trans q6⟩
  · unfold Rmo at h5 ⊢
    rw [I 8959 0 (by decide)]
    exact h5
  · rw [I 95 0 (by decide)]
    exact h6
  · unfold f_chunk at z ⊢
    rw [I 5 0 (by decide)] at z
    exact z
def vlQ (n e : Nat × Nat) (_ : Int32) (t : S1) : Prop := Vz t n e
theorem rlimit_ok {s : S1} {n e : Nat × Nat} (h : Vz s n e) (a : Int32) : ok (M_Mo_limit a) s (vlQ n e) := by
  have j26 : ∀ k : Int32, (k = 0 ∨ k = 1) → (k = 0 → a ≤ 4000) → ok (M_Mo_limit_j26 a k 1) (sI s 2 0 0) (vlQ n e) := fun k hk ha => by
    simp only [M_Mo_limit_j26, ok_B, ok_C, ok_R, ok_L, ok_K, ok_GI, ok_GL, ok_PI, ok_PL, ok_AI, ok_AL, ok_SI, ok_SL, ok_Pr, ok_CI, cmp_lt, cmp_le, cmp_gt, cmp_ge, cmp_eq, nar0, nar1, Sum.elim_inl, Sum.elim_inr]
    refine ok_mono (rrefuse_ok (h.t2 0) 1 k hk) ?_
    rintro v t ⟨ev, vt, st⟩
    exact ⟨fun z => vt.lim (ha (ev.symm.trans z)), fun _ => vt⟩
  simp only [M_Mo_limit, M_Mo_limit_j21, ok_B, ok_C, ok_R, ok_L, ok_K, ok_GI, ok_GL, ok_PI, ok_PL, ok_AI, ok_AL, ok_SI, ok_SL, ok_Pr, ok_CI, cmp_lt, cmp_le, cmp_gt, cmp_ge, cmp_eq, nar0, nar1, Sum.elim_inl, Sum.elim_inr]
  exact ⟨fun _ => j26 1 (.inr rfl) (fun z => absurd z (by decide)), fun _ => ⟨fun c => j26 0 (.inl rfl) (fun _ => c), fun _ => j26 1 (.inr rfl) (fun z => absurd z (by decide))⟩⟩
theorem rfault_ok {s : S1} {n e : Nat × Nat} (h : Vz s n e) (a : Int32) : ok (M_Mo_fault a) s (vlQ n e) := by
  have j21 : ∀ k : Int32, (k = 0 ∨ k = 1) → ok (M_Mo_fault_j21 a k 1) (sI s 2 0 0) (vlQ n e) := fun k hk => by
    simp only [M_Mo_fault_j21, ok_B, ok_C, ok_R, ok_L, ok_K, ok_GI, ok_GL, ok_PI, ok_PL, ok_AI, ok_AL, ok_SI, ok_SL, ok_Pr, ok_CI, cmp_lt, cmp_le, cmp_gt, cmp_ge, cmp_eq, nar0, nar1, Sum.elim_inl, Sum.elim_inr]
    refine ok_mono (rrefuse_ok (h.t2 0) 1 k hk) ?_
    rintro v t ⟨ev, vt, st⟩
    exact ⟨fun z => ⟨fun _ => vt, fun _ => vt⟩, fun _ => vt⟩
  simp only [M_Mo_fault, M_Mo_fault_j16, ok_B, ok_C, ok_R, ok_L, ok_K, ok_GI, ok_GL, ok_PI, ok_PL, ok_AI, ok_AL, ok_SI, ok_SL, ok_Pr, ok_CI, cmp_lt, cmp_le, cmp_gt, cmp_ge, cmp_eq, nar0, nar1, Sum.elim_inl, Sum.elim_inr]
  exact ⟨fun _ => j21 1 (.inr rfl), fun _ => ⟨fun c => j21 0 (.inl rfl), fun _ => j21 1 (.inr rfl)⟩⟩
theorem Vz.size {s : S1} {n e : Nat × Nat} (h : Vz s n e) {x : Int32} (hx : 0 ≤ x.toInt ∧ x.toInt ≤ 65536) : Vz (sI s 1 0 x) n e := by
  refine Rb.vz (s := s) ⟨fun f i q => by rw [gI_sI, if_neg (fun z => q.1 z.1)], fun _ _ _ => rfl, fun _ _ _ _ => rfl, fun _ _ _ _ => rfl⟩ h ?_ (fun z => ?_)
  · unfold f_size
    rw [gI_sI, if_pos ⟨rfl, rfl⟩]
    exact hx
  · unfold f_chunk at z ⊢
    rw [gI_sI, if_neg (fun y => absurd y.1 (by decide))] at z
    exact z
theorem rend_ok {s : S1} {n e : Nat × Nat} (h : Vz s n e) (a : Int32) : ok (M_Mo_end a) s (vlQ n e) := by
  have e0 : (0 : Int32).toInt = 0 := rfl
  have j24 : ∀ k : Int32, (k = 0 ∨ k = 1) → (k = 0 → 0 ≤ a.toInt ∧ a.toInt ≤ 65536) → ok (M_Mo_end_j24 a k 1) (sI s 2 0 0) (vlQ n e) := fun k hk ha => by
    simp only [M_Mo_end_j24, ok_B, ok_C, ok_R, ok_L, ok_K, ok_GI, ok_GL, ok_PI, ok_PL, ok_AI, ok_AL, ok_SI, ok_SL, ok_Pr, ok_CI, cmp_lt, cmp_le, cmp_gt, cmp_ge, cmp_eq, nar0, nar1, Sum.elim_inl, Sum.elim_inr]
    refine ok_mono (rrefuse_ok (h.t2 0) 1 k hk) ?_
    rintro v t ⟨ev, vt, st⟩
    exact ⟨fun z => vt.size (ha (ev.symm.trans z)), fun _ => vt⟩
  simp only [M_Mo_end, M_Mo_end_j19, ok_B, ok_C, ok_R, ok_L, ok_K, ok_GI, ok_GL, ok_PI, ok_PL, ok_AI, ok_AL, ok_SI, ok_SL, ok_Pr, ok_CI, cmp_lt, cmp_le, cmp_gt, cmp_ge, cmp_eq, nar0, nar1, Sum.elim_inl, Sum.elim_inr]
  refine ⟨fun _ => j24 1 (.inr rfl) (fun z => absurd z (by decide)), fun c => ⟨fun c2 => j24 0 (.inl rfl) (fun _ => ?_), fun _ => j24 1 (.inr rfl) (fun z => absurd z (by decide))⟩⟩
  rw [i32_lt] at c
  rw [i32_le] at c2
  have := (h.t2 0).1
  unfold f_size at this
  omega
