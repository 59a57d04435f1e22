/-! The reference: load. -/
theorem pk_wf {s t : S1} {p i : Int32} (A : ∀ a i j, 42 ≤ a ∧ a ≤ 55 → gA t a i j = gA s a i j) : Wf t p i ↔ Wf s p i := by
  unfold Wf Wn Gs Rr Rq
  simp only [a_registers, a_upvalues, a_consts, a_codeAt, a_codes, a_children, a_code, A 44 _ _ (by decide), A 45 _ _ (by decide), A 48 _ _ (by decide), A 49 _ _ (by decide), A 50 _ _ (by decide), A 52 _ _ (by decide), A 55 _ _ (by decide)]
theorem pk_pg {s t : S1} (I : ∀ f, f = 23 ∨ f = 25 → gI t f 0 = gI s f 0) (A : ∀ a i j, 42 ≤ a ∧ a ≤ 55 → gA t a i j = gA s a i j) (h : Pg s) : Pg t := by
  unfold Pg Pp at *
  simp only [pk_wf A]
  simp only [f_protos, f_constCount, a_params, a_registers, a_upvalues, a_upAt, a_constAt, a_consts, a_codeAt, a_codes, a_childAt, a_children, a_ups, a_child, I 23 (by decide), I 25 (by decide), A 42 _ _ (by decide), A 44 _ _ (by decide), A 45 _ _ (by decide), A 46 _ _ (by decide), A 47 _ _ (by decide), A 48 _ _ (by decide), A 49 _ _ (by decide), A 50 _ _ (by decide), A 51 _ _ (by decide), A 52 _ _ (by decide), A 53 _ _ (by decide), A 54 _ _ (by decide)] at *
  exact h
/-- what a load leaves while it reads -/
def Lz (s t : S1) : Prop := (∀ f i, f ≠ 2 ∧ f ≠ 3 ∧ f ≠ 4 ∧ f ≠ 5 ∧ ¬ (23 ≤ f ∧ f ≤ 31) → gI t f i = gI s f i) ∧ gI t 5 0 = 0
theorem Lz.vz {s t : S1} {n e : Nat × Nat} (hs : Lz s t) (h : Vz s n e) : Vz t n e := by
  obtain ⟨h1, h2, ⟨ρ, h3⟩, h4, h5, h6, -⟩ := h
  refine ⟨?_, ?_, ⟨ρ, ?_⟩, fun z => ?_, ?_, ?_, fun z => absurd hs.2 z⟩
  · unfold f_size
    rw [hs.1 1 0 (by decide)]
    exact h1
  · unfold Lf at h2 ⊢
    simp only [f_roomAll, f_textAll, f_madeAll, f_limit] at h2 ⊢
    rw [hs.1 43 0 (by decide), hs.1 44 0 (by decide), hs.1 42 0 (by decide), hs.1 32 0 (by decide)]
    exact h2
  · unfold Rk at h3 ⊢
    simp only [t_resumer, hs.1 3590 _ (by decide)] at h3 ⊢
    exact h3
  · rw [hs.1 8959 0 (by decide)] at z
    obtain ⟨q1, q2, q3, q4, q5, q6⟩ := h4 z
    exact ⟨(hs.1 _ _ (by decide)).trans q1, (hs.1 _ _ (by decide)).trans q2, (hs.1 _ _ (by decide)).trans q3, (hs.1 _ _ (by decide)).trans q4, (hs.1 _ _ (by decide)).trans q5, (hs.1 _ _ (by decide)).trans q6⟩
  · unfold Rmo at h5 ⊢
    rw [hs.1 8959 0 (by decide)]
    exact h5
  · rw [hs.1 95 0 (by decide)]
    exact h6
theorem Vz.clr {s T : S1} {n m e : Nat × Nat} (h : Vz s n e) (c0 : f_chunk s = 0) (q : clP s T) (rm : Rmo T m e) : Vz T m e := by
  obtain ⟨c, k, o, -, f⟩ := q
  obtain ⟨h1, -, ⟨ρ, h3⟩, -, -, -, -⟩ := h
  refine ⟨?_, c.2.2.2.2.2.2, ⟨ρ, fun t t0 t1 z => ?_⟩, fun _ => c.1, rm, by rw [o]; decide, fun z => ?_⟩
  · unfold f_size
    rw [k.1 1 0 (by unfold clF; decide) (by decide)]
    exact h1
  · have e := k.2.1 t
    unfold t_resumer at z ⊢
    by_cases y : t = 0
    · rw [if_pos y] at e
      exact absurd e z
    · rw [if_neg y] at e
      rw [e] at z ⊢
      exact h3 t t0 t1 z
  · unfold f_chunk at z c0
    rw [k.1 5 0 (by unfold clF; decide) (by decide)] at z
    exact absurd c0 z
theorem rj145 {z : S1} {n e : Nat × Nat} (k : Int32) (h : Vz z n e) (c0 : f_chunk z = 0) (hk : k = 0 ∨ k = 1) (hr : k = 0 → Rs z) : ok (M_Mo_load__j145 n k 2) z (vlR e) := by
  simp only [M_Mo_load__j145, ok_B, ok_C, ok_R, ok_L, ok_K, ok_GI, ok_GL, ok_PI, ok_PL, ok_AI, ok_AL, ok_SI, ok_SL, ok_CI, cmp_lt, cmp_le, cmp_gt, cmp_ge, cmp_eq, nar0, nar1, Sum.elim_inl, Sum.elim_inr, ok_PzT, ok_PzC, ok_PzP, ok_PrC, ok_PrP, ok_PrF, ok_PrN, ok_Ln, ok_CL, ok_Nw, ok_S, ok_Ks, ok_Nz]
  refine ok_mono (rrefuse_ok h 2 k hk) ?_
  rintro v t ⟨ev, vt, st⟩
  refine ⟨fun y => ?_, fun y => ?_⟩
  · have k0 : k = 0 := ev.symm.trans y
    have rb : Rb t (sI t 5 0 1) := ⟨fun f i q => by rw [gI_sI, if_neg (fun z => q.2.2.1 z.1)], fun _ _ _ => rfl, fun _ _ _ _ => rfl, fun _ _ _ _ => rfl⟩
    have rs : Rs t := by
      rw [st k0]
      exact hr k0
    obtain ⟨v1, v2, v3, v4, v5, v6, -⟩ := rb.vz (n := n) (e := e) ⟨vt.1, vt.2.1, vt.2.2.1, vt.2.2.2.1, vt.2.2.2.2.1, vt.2.2.2.2.2.1, fun _ => rs⟩ (by unfold f_size; rw [gI_sI, if_neg (fun z => absurd z.1 (by decide))]; exact vt.1) (fun _ => sorry)
    exact ⟨v1, v2, v3, v4, v5, v6, fun _ => rb.rs rs⟩
  · refine ok_mono (clear_ok vt.2.2.2.1 vt.2.1 vt.2.2.2.2.1) ?_
    rintro ⟨u, m⟩ T ⟨q, rm⟩
    sorry
