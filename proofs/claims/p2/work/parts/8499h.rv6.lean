/-! The reference: load. -/
theorem pk_wf {s t : S1} {p i : Int32} (A : ∀ a i j, 42 ≤ a ∧ a ≤ 55 → gA t a i j = gA s a i j) : Wf t p i ↔ Wf s p i := by
  unfold Wf Wn Gs Rr Rq
  simp only [a_registers, a_upvalues, a_consts, a_codeAt, a_codes, a_children, a_code, A 44 _ _ (by decide), A 45 _ _ (by decide), A 48 _ _ (by decide), A 49 _ _ (by decide), A 50 _ _ (by decide), A 52 _ _ (by decide), A 55 _ _ (by decide)]
theorem pk_pg {s t : S1} (I : ∀ f, f = 23 ∨ f = 25 → gI t f 0 = gI s f 0) (A : ∀ a i j, 42 ≤ a ∧ a ≤ 55 → gA t a i j = gA s a i j) (h : Pg s) : Pg t := by
  unfold Pg Pp at *
  simp only [pk_wf A]
  simp only [f_protos, f_constCount, a_params, a_registers, a_upvalues, a_upAt, a_constAt, a_consts, a_codeAt, a_codes, a_childAt, a_children, a_ups, a_child, I 23 (by decide), I 25 (by decide), A 42 _ _ (by decide), A 44 _ _ (by decide), A 45 _ _ (by decide), A 46 _ _ (by decide), A 47 _ _ (by decide), A 48 _ _ (by decide), A 49 _ _ (by decide), A 50 _ _ (by decide), A 51 _ _ (by decide), A 52 _ _ (by decide), A 53 _ _ (by decide), A 54 _ _ (by decide)] at *
  exact h
/-- what a load leaves while it reads -/
def Lz (s t : S1) : Prop := (∀ f i, f ≠ 2 ∧ f ≠ 3 ∧ f ≠ 4 ∧ f ≠ 5 ∧ ¬ (23 ≤ f ∧ f ≤ 31) → gI t f i = gI s f i) ∧ gI t 5 0 = 0
theorem Lz.vz {s t : S1} {n e : Nat × Nat} (hs : Lz s t) (h : Vz s n e) : Vz t n e := by
  obtain ⟨h1, h2, ⟨ρ, h3⟩, h4, h5, h6, -⟩ := h
  refine ⟨?_, ?_, ⟨ρ, ?_⟩, fun z => ?_, ?_, ?_, fun z => absurd hs.2 z⟩
  · unfold f_size
    rw [hs.1 1 0 (by decide)]
    exact h1
  · unfold Lf at h2 ⊢
    simp only [f_roomAll, f_textAll, f_madeAll, f_limit] at h2 ⊢
    rw [hs.1 43 0 (by decide), hs.1 44 0 (by decide), hs.1 42 0 (by decide), hs.1 32 0 (by decide)]
    exact h2
  · unfold Rk at h3 ⊢
    simp only [t_resumer, hs.1 3590 _ (by decide)] at h3 ⊢
    exact h3
  · rw [hs.1 8959 0 (by decide)] at z
    obtain ⟨q1, q2, q3, q4, q5, q6⟩ := h4 z
    exact ⟨(hs.1 _ _ (by decide)).trans q1, (hs.1 _ _ (by decide)).trans q2, (hs.1 _ _ (by decide)).trans q3, (hs.1 _ _ (by decide)).trans q4, (hs.1 _ _ (by decide)).trans q5, (hs.1 _ _ (by decide)).trans q6⟩
  · unfold Rmo at h5 ⊢
    rw [hs.1 8959 0 (by decide)]
    exact h5
  · rw [hs.1 95 0 (by decide)]
    exact h6
theorem Vz.clr {s T : S1} {n m e : Nat × Nat} (h : Vz s n e) (c0 : f_chunk s = 0) (q : clP s T) (rm : Rmo T m e) : Vz T m e := by
  obtain ⟨c, k, o, -, f⟩ := q
  obtain ⟨h1, -, ⟨ρ, h3⟩, -, -, -, -⟩ := h
  refine ⟨?_, c.2.2.2.2.2.2, ⟨ρ, fun t t0 t1 z => ?_⟩, fun _ => c.1, rm, by rw [o]; decide, fun z => ?_⟩
  · unfold f_size
    rw [k.1 1 0 (by unfold clF; decide) (by decide)]
    exact h1
  · have e := k.2.1 t
    unfold t_resumer at z ⊢
    by_cases y : t = 0
    · rw [if_pos y] at e
      exact absurd e z
    · rw [if_neg y] at e
      rw [e] at z ⊢
      exact h3 t t0 t1 z
  · unfold f_chunk at z c0
    rw [k.1 5 0 (by unfold clF; decide) (by decide)] at z
    exact absurd c0 z
theorem Vz.on {s : S1} {n e : Nat × Nat} {x : Int32} (h : Vz s n e) (r : Rs s) : Vz (sI s 5 0 x) n e := by
  have I : ∀ f i, f ≠ 5 → gI (sI s 5 0 x) f i = gI s f i := fun f i q => by rw [gI_sI, if_neg (fun z => q z.1)]
  have rb : Rb s (sI s 5 0 x) := ⟨fun f i q => I f i q.2.2.1, fun _ _ _ => rfl, fun _ _ _ _ => rfl, fun _ _ _ _ => rfl⟩
  obtain ⟨h1, h2, ⟨ρ, h3⟩, h4, h5, h6, h7⟩ := h
  refine ⟨?_, ?_, ⟨ρ, ?_⟩, fun z => ?_, ?_, ?_, fun z => rb.rs r⟩
  · unfold f_size
    rw [I 1 0 (by decide)]
    exact h1
  · unfold Lf at h2 ⊢
    simp only [f_roomAll, f_textAll, f_madeAll, f_limit] at h2 ⊢
    rw [I 43 0 (by decide), I 44 0 (by decide), I 42 0 (by decide), I 32 0 (by decide)]
    exact h2
  · unfold Rk at h3 ⊢
    simp only [t_resumer, I 3590 _ (by decide)] at h3 ⊢
    exact h3
  · rw [I 8959 0 (by decide)] at z
    obtain ⟨q1, q2, q3, q4, q5, q6⟩ := h4 z
    exact ⟨(I _ _ (by decide)).trans q1, (I _ _ (by decide)).trans q2, (I _ _ (by decide)).trans q3, (I _ _ (by decide)).trans q4, (I _ _ (by decide)).trans q5, (I _ _ (by decide)).trans q6⟩
  · unfold Rmo at h5 ⊢
    rw [I 8959 0 (by decide)]
    exact h5
  · rw [I 95 0 (by decide)]
    exact h6
theorem rj145 {z : S1} {n e : Nat × Nat} (k : Int32) (h : Vz z n e) (c0 : f_chunk z = 0) (hk : k = 0 ∨ k = 1) (hr : k = 0 → Rs z) : ok (M_Mo_load__j145 n k 2) z (vlR e) := by
  simp only [M_Mo_load__j145, ok_B, ok_C, ok_R, ok_L, ok_K, ok_GI, ok_GL, ok_PI, ok_PL, ok_AI, ok_AL, ok_SI, ok_SL, ok_CI, cmp_lt, cmp_le, cmp_gt, cmp_ge, cmp_eq, nar0, nar1, Sum.elim_inl, Sum.elim_inr, ok_PzT, ok_PzC, ok_PzP, ok_PrC, ok_PrP, ok_PrF, ok_PrN, ok_Ln, ok_CL, ok_Nw, ok_S, ok_Ks, ok_Nz]
  refine ok_mono ((rrefuse_ok h 2 k hk).uk (uk_Mo_refuse _ _)) ?_
  rintro v t ⟨⟨ev, vt, st⟩, ur⟩
  refine ⟨fun y => ?_, fun y => ?_⟩
  · have k0 : k = 0 := ev.symm.trans y
    have rs : Rs t := by
      rw [st k0]
      exact hr k0
    exact vt.on rs
  · refine ok_mono (clear_ok vt.2.2.2.1 vt.2.1 vt.2.2.2.2.1) ?_
    rintro ⟨u, m⟩ T ⟨q, rm⟩
    exact vt.clr ((ur.1 5 (by decide)).trans c0) q rm
/-- a chunk that was read and looked over begins -/
def chK (u : S1) : Prop := Pg u ∧ a_upvalues u 0 = 1 ∧ RdK u
theorem rj119 {u : S1} {n e : Nat × Nat} (k : Int32) (h : Vz u n e) (c0 : f_chunk u = 0) (hk : k = 0 ∨ k = 1) (hr : k = 0 → chK u) : ok (M_Mo_load__j119 n k 1) u (vlR e) := by
  simp only [M_Mo_load__j119, ok_B, ok_C, ok_R, ok_L, ok_K, ok_GI, ok_GL, ok_PI, ok_PL, ok_AI, ok_AL, ok_SI, ok_SL, ok_CI, cmp_lt, cmp_le, cmp_gt, cmp_ge, cmp_eq, nar0, nar1, Sum.elim_inl, Sum.elim_inr, ok_PzT, ok_PzC, ok_PzP, ok_PrC, ok_PrP, ok_PrF, ok_PrN, ok_Ln, ok_CL, ok_Nw, ok_S, ok_Ks, ok_Nz]
  refine ok_mono ((rrefuse_ok h 1 k hk).uk (uk_Mo_refuse _ _)) ?_
  rintro v t ⟨⟨ev, vt, st⟩, ur⟩
  refine ⟨fun y => ?_, fun y => vt⟩
  have k0 : k = 0 := ev.symm.trans y
  obtain ⟨pg, au, rk⟩ := hr k0
  rw [← st k0] at pg au rk
  have ct : f_chunk t = 0 := (ur.1 5 (by decide)).trans c0
  refine ok_mono (clear_ok vt.2.2.2.1 vt.2.1 vt.2.2.2.2.1) ?_
  rintro ⟨uu, m⟩ T ⟨q, rm⟩
  have vT := vt.clr ct q rm
  have o95 := q.2.2.1
  have cT : f_chunk T = 0 := (q.2.1.1 5 0 (by unfold clF; decide) (by decide)).trans ct
  have A : ∀ a i j, ¬ (a = 58 ∨ a = 68 ∨ (69 ≤ a ∧ a ≤ 74)) → gA T a i j = gA t a i j := q.2.1.2.2.2.1
  have I : ∀ f, f = 23 ∨ f = 25 → gI T f 0 = gI t f 0 := fun f z => q.2.1.1 f 0 (by unfold clF; omega) (by omega)
  have pT : Pg T := pk_pg I (fun a i j z => A a i j (by omega)) pg
  have aT : a_upvalues T 0 = 1 := (A 45 0 0 (by decide)).trans au
  have kT : RdK T := by
    unfold RdK at rk ⊢
    simp only [v_constants_k, v_constants_v, a_constText, nuK, f_constCount, A 2 _ _ (by decide), A 57 _ _ (by decide), A 56 _ _ (by decide), q.2.1.2.2.2.2 3 _ _ (by decide), I 25 (by decide)] at rk ⊢
    exact rk
  have f1 : gI T 8959 0 = 1 := q.2.2.2.2
  refine ok_mono ((((begin_ok T q.1 pT aT kT vT.2.2.1).uk uk_Mo_begin)).wh (fun a z e => n9k_Mo_begin T a z e)) ?_
  rintro b z ⟨⟨w, uz⟩, nz⟩
  have zc : f_chunk z = 0 := (uz.1 5 (by decide)).trans cT
  have z95 : gI z 95 0 = 0 := Eq.trans nz o95
  have vz : ∀ (lf : Lf z) (rmz : Rm z) (hk : ∃ ρ, Rk ρ z), Vz z m e := fun lf rmz hk => by
    refine ⟨?_, lf, hk, fun _ => rmz, ?_, by rw [z95]; decide, fun y => absurd zc y⟩
    · unfold f_size
      rw [uz.1 1 (by decide)]
      exact vT.1
    · have := vT.2.2.2.2.1
      unfold Rmo at this ⊢
      have g1 : gI z 8959 0 = 1 := rmz.1
      rw [f1] at this
      rw [g1]
      exact this
  rcases w with ⟨b0, bf⟩ | ⟨b1, out⟩
  · have lf := bf.1.lf
    have vzz := vz lf.1 lf.2 (by
      obtain ⟨ρ, r⟩ := vT.2.2.1
      refine ⟨ρ, fun t t0 t1 y => ?_⟩
      rcases bf.2 t with y' | y'
      · rw [y'] at y ⊢
        exact r t t0 t1 y
      · exact absurd y' y)
    refine ⟨fun _ => rj145 1 vzz zc (.inr rfl) (fun y => absurd y (by decide)), fun y => absurd b0 y⟩
  · have rs : Rs z := ⟨by rw [z95]; decide, .inr out⟩
    have lf := out.1.lf
    have vzz := vz lf.1 lf.2 rs.rk
    refine ⟨fun y => ?_, fun _ => rj145 0 vzz zc (.inl rfl) (fun _ => rs)⟩
    rw [b1] at y
    exact absurd y (by decide)
