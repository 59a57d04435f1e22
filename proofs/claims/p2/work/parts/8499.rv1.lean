/-! The reference between two calls. -/
def Rb (s t : S1) : Prop := (∀ f i, f ≠ 1 ∧ f ≠ 2 ∧ f ≠ 5 ∧ f / 128 ≠ 94 ∧ f < 12800 → gI t f i = gI s f i) ∧ (∀ f i, f < 12800 → gL t f i = gL s f i) ∧ (∀ a i j, a ≠ 41 ∧ a ≠ 94 ∧ a < 100 → gA t a i j = gA s a i j) ∧ ∀ a i j, a ≠ 94 ∧ a < 100 → gB t a i j = gB s a i j
theorem Rb.refl (s : S1) : Rb s s := ⟨fun _ _ _ => rfl, fun _ _ _ => rfl, fun _ _ _ _ => rfl, fun _ _ _ _ => rfl⟩
theorem Rb.trans {s t u : S1} (a : Rb s t) (b : Rb t u) : Rb s u := ⟨fun f j q => (b.1 f j q).trans (a.1 f j q), fun f j q => (b.2.1 f j q).trans (a.2.1 f j q), fun f j k q => (b.2.2.1 f j k q).trans (a.2.2.1 f j k q), fun f j k q => (b.2.2.2 f j k q).trans (a.2.2.2 f j k q)⟩
theorem Rb.hx {s t : S1} (h : Rb s t) : Hx0 s t := by
  refine ⟨fun a i j q => h.2.2.1 a i j ?_, fun a i j q => h.2.2.2 a i j ?_, fun f i q => h.1 f i ?_, fun f i q => h.2.1 f i ?_⟩
  · unfold hxA hwA at q
    simp only [Bool.or_eq_true, List.contains_eq_mem, List.mem_cons, List.not_mem_nil, or_false, decide_eq_true_eq] at q
    omega
  · unfold hxB q_hpB at q
    simp only [Bool.or_eq_true, List.contains_eq_mem, List.mem_cons, List.not_mem_nil, or_false, decide_eq_true_eq] at q
    omega
  · unfold hxI hwI at q
    simp only [Bool.or_eq_true, List.contains_eq_mem, List.mem_cons, List.not_mem_nil, or_false, decide_eq_true_eq] at q
    omega
  · unfold hxL at q
    simp only [List.contains_eq_mem, List.mem_cons, List.not_mem_nil, or_false, decide_eq_true_eq] at q
    omega
theorem Rb.hz {s t : S1} (h : Rb s t) : Hz s t := by
  refine ⟨fun f i q => h.1 f i ?_, fun a i j q => h.2.2.1 a i j ?_, fun i j => h.2.2.2 3 i j (by decide)⟩
  · unfold hzI feI at q
    simp only [Bool.or_eq_true, List.contains_eq_mem, List.mem_cons, List.not_mem_nil, or_false, decide_eq_true_eq] at q
    omega
  · unfold hzA feA at q
    simp only [Bool.or_eq_true, List.contains_eq_mem, List.mem_cons, List.not_mem_nil, or_false, decide_eq_true_eq] at q
    omega
theorem Rb.out {s t : S1} (hs : Rb s t) (h : Out s) : Out t := by
  obtain ⟨g, z, hh, o⟩ := h
  have fr : ∀ τ, Fr τ s → Fr τ t := fun τ f => f.hz hs.hz
  refine ⟨g.hx hs.hx, (hs.1 92 0 (by decide)).trans z, (hs.1 2050 0 (by decide)).trans hh, ?_⟩
  have e73 : f_todo t = f_todo s := hs.1 73 0 (by decide)
  rw [e73]
  rcases o with ⟨a, b, c⟩ | ⟨a, b⟩ | ⟨a, b, c⟩ | ⟨a, b, c⟩
  · refine Or.inl ⟨a, fr _ b, c.of (hs.1 72 0 (by decide)) ?_ fun x hx i j => hs.2.2.1 x i j (by omega)⟩
    show gI t 3586 (gI t 72 0) - 1 = gI s 3586 (gI s 72 0) - 1
    rw [hs.1 3586 _ (by decide), hs.1 72 _ (by decide)]
  · exact Or.inr (Or.inl ⟨a, fr _ b⟩)
  · refine Or.inr (Or.inr (Or.inl ⟨a, fr _ b, ?_⟩))
    show gI t 898 0 ≤ 250
    rw [hs.1 898 _ (by decide)]
    exact c
  · refine Or.inr (Or.inr (Or.inr ⟨a, fr _ b, ?_⟩))
    show gI t 1282 0 ≤ 250
    rw [hs.1 1282 _ (by decide)]
    exact c
theorem Rb.fin {s t : S1} (hs : Rb s t) (h : Fin s) : Fin t := ⟨h.1.hx hs.hx, (hs.1 92 0 (by decide)).trans h.2.1, (hs.1 2050 0 (by decide)).trans h.2.2.1, by rw [hs.1 80 0 (by decide)]; exact h.2.2.2⟩
def Rs (s : S1) : Prop := 0 ≤ gI s 95 0 ∧ (Fin s ∨ Out s)
theorem Rb.rs {s t : S1} (hs : Rb s t) (h : Rs s) : Rs t := ⟨by rw [hs.1 95 0 (by decide)]; exact h.1, h.2.imp hs.fin hs.out⟩
theorem Rs.gg {s : S1} (h : Rs s) : GG s ∧ f_noCollection s = 0 := by
  rcases h.2 with h | h
  · exact ⟨h.1, h.2.1⟩
  · exact ⟨h.1, h.2.1⟩
theorem GG.lf {s : S1} (h : GG s) : Lf s ∧ Rm s := by
  obtain ⟨hm, ⟨n1, n2, n3, n4, -⟩, -⟩ := h
  exact ⟨⟨⟨n1.2.1, n1.2.2⟩, ⟨n2.2.1, n2.2.2⟩, ⟨Int32.le_trans n3.1 n3.2.1, n3.2.2⟩, n4⟩, hm.1.1.1⟩
theorem Rs.rk {s : S1} (h : Rs s) : ∃ ρ, Rk ρ s := (h.gg.1.1.2 h.gg.2).1.2.1
/-- the reference between two calls; n: the room left, e: kept for others -/
def Vz (s : S1) (n e : Nat × Nat) : Prop := (0 ≤ (f_size s).toInt ∧ (f_size s).toInt ≤ 65536) ∧ Lf s ∧ (∃ ρ, Rk ρ s) ∧ (gI s 8959 0 = 1 → Rm s) ∧ Rmo s n e ∧ (gI s 95 0).toInt ≤ 20000 ∧ (f_chunk s ≠ 0 → Rs s)
theorem Rb.vz {s t : S1} {n e : Nat × Nat} (hs : Rb s t) (h : Vz s n e) (sz : 0 ≤ (f_size t).toInt ∧ (f_size t).toInt ≤ 65536) (ch : f_chunk t ≠ 0 → f_chunk s ≠ 0) : Vz t n e := by
  obtain ⟨-, h2, ⟨ρ, h3⟩, h4, h5, h6, h7⟩ := h
  refine ⟨sz, ?_, ⟨ρ, ?_⟩, fun z => ?_, ?_, ?_, fun z => hs.rs (h7 (ch z))⟩
  · unfold Lf at h2 ⊢
    simp only [f_roomAll, f_textAll, f_madeAll, f_limit] at h2 ⊢
    rw [hs.1 43 0 (by decide), hs.1 44 0 (by decide), hs.1 42 0 (by decide), hs.1 32 0 (by decide)]
    exact h2
  · unfold Rk at h3 ⊢
    simp only [t_resumer, hs.1 3590 _ (by decide)] at h3 ⊢
    exact h3
  · rw [hs.1 8959 0 (by decide)] at z
    obtain ⟨q1, q2, q3, q4, q5, q6⟩ := h4 z
    exact ⟨(hs.1 _ _ (by decide)).trans q1, (hs.1 _ _ (by decide)).trans q2, (hs.1 _ _ (by decide)).trans q3, (hs.1 _ _ (by decide)).trans q4, (hs.1 _ _ (by decide)).trans q5, (hs.1 _ _ (by decide)).trans q6⟩
  · unfold Rmo at h5 ⊢
    rw [hs.1 8959 0 (by decide)]
    exact h5
  · rw [hs.1 95 0 (by decide)]
    exact h6
/-- after a program that was loaded has gone on -/
theorem Rs.vz {s t : S1} {n e : Nat × Nat} (h : Vz s n e) (ld : f_chunk s ≠ 0) (r : Rs t) (u : Ur s t) : Vz t n e := by
  have ll := r.gg.1.lf
  have f1 : gI s 8959 0 = 1 := (h.2.2.2.2.2.2 ld).gg.1.lf.2.1
  have f2 : gI t 8959 0 = 1 := ll.2.1
  refine ⟨?_, ll.1, r.rk, fun _ => ll.2, ?_, u.2 h.2.2.2.2.2.1, fun _ => r⟩
  · unfold f_size
    rw [u.1 1 (by decide)]
    exact h.1
  · have := h.2.2.2.2.1
    unfold Rmo at this ⊢
    rw [f1] at this
    rw [f2]
    exact this
theorem rb_2 (s : S1) (x : Int32) : Rb s (sI s 2 0 x) := ⟨fun f i q => by rw [gI_sI, if_neg (fun z => q.2.1 z.1)], fun _ _ _ => rfl, fun _ _ _ _ => rfl, fun _ _ _ _ => rfl⟩
theorem Vz.t2 {s : S1} {n e : Nat × Nat} (h : Vz s n e) (x : Int32) : Vz (sI s 2 0 x) n e := (rb_2 s x).vz h (by unfold f_size; rw [gI_sI, if_neg (fun z => absurd z.1 (by decide))]; exact h.1) (fun z => by unfold f_chunk at z ⊢; rw [gI_sI, if_neg (fun z => absurd z.1 (by decide))] at z; exact z)
def rvQ (s : S1) (n e : Nat × Nat) (b v : Int32) (t : S1) : Prop := v = b ∧ Vz t n e ∧ (b = 0 → t = s)
theorem rrefuse_ok {s : S1} {n e : Nat × Nat} (h : Vz s n e) (a b : Int32) (hb : b = 0 ∨ b = 1) : ok (M_Mo_refuse a b) s (rvQ s n e b) := by
  simp only [M_Mo_refuse, ok_B, ok_C, ok_R, ok_L, ok_K, ok_GI, ok_GL, ok_PI, ok_PL, ok_AI, ok_AL, ok_SI, ok_SL, ok_Pr, ok_CI, cmp_lt, cmp_le, cmp_gt, cmp_ge, cmp_eq, nar0, nar1, Sum.elim_inl, Sum.elim_inr]
  refine ⟨fun z => ⟨hb, rfl, h, fun _ => rfl⟩, fun z => ⟨hb, rfl, h.t2 a, fun y => absurd y z⟩⟩
