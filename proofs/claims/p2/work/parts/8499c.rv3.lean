/-! The reference: run, collect. -/
theorem ok.uk {α : Type} {f : M α} {s : S1} {Q : α → S1 → Prop} (h : ok f s Q) (k : Uk f) : ok f s (fun a t => Q a t ∧ Ur s t) := by
  obtain ⟨a, t, e, q⟩ := ok_out h
  exact ok_in e ⟨q, k s a t e⟩
theorem rrun54 {s : S1} (l : Int32) (h : Rs s) (hl : 0 ≤ l) : ok (oW M_Mo_run_L54 l) s (fun _ t => Rs t) := by
  rcases h.2 with w | w
  · refine ok_W (fun _ z => z = s) (fun _ _ => 0) ?_ l s rfl
    rintro x z rfl
    unfold M_Mo_run_L54
    rw [ok_B, ok_GI, ok_C]
    refine ⟨fun c => absurd c w.2.2.2, fun _ => ?_⟩
    rw [ok_R]
    exact h
  · refine ok_mono (run54_ok l s w h.1 hl) ?_
    rintro - t ⟨o, r⟩
    exact ⟨o, r.imp id (fun q => q.1)⟩
theorem vz_ch {s : S1} {n e : Nat × Nat} (h : Vz s n e) (z : f_chunk s ≠ 0) : Rs s := h.2.2.2.2.2.2 z
theorem rrun_ok {s : S1} {n e : Nat × Nat} (h : Vz s n e) (a : Int32) : ok (M_Mo_run a) s (vlQ n e) := by
  have e0 : (0 : Int32).toInt = 0 := rfl
  have e1 : (1 : Int32).toInt = 1 := rfl
  have j44 : ∀ (t : S1) (k : Int32), Vz t n e → (k = 0 ∨ k = 1) → (k = 0 → f_chunk t ≠ 0 ∧ 0 ≤ a) → ok (M_Mo_run_j44 a k 2) t (vlQ n e) := fun t k vt hk hc => by
    simp only [M_Mo_run_j44, M_Mo_run_j138, ok_B, ok_C, ok_R, ok_L, ok_K, ok_GI, ok_GL, ok_PI, ok_PL, ok_AI, ok_AL, ok_SI, ok_SL, ok_Pr, ok_CI, cmp_lt, cmp_le, cmp_gt, cmp_ge, cmp_eq, nar0, nar1, Sum.elim_inl, Sum.elim_inr]
    refine ok_mono (rrefuse_ok vt 2 k hk) ?_
    rintro v u ⟨ev, vu, st⟩
    refine ⟨fun z => ?_, fun _ => vu⟩
    have k0 : k = 0 := ev.symm.trans z
    rw [st k0]
    obtain ⟨ld, a0⟩ := hc k0
    refine ok_mono ((rrun54 a (vz_ch vt ld) a0).uk (uk_W (fun x => uk_Mo_run_L54 x) a)) ?_
    rintro (y | y) w ⟨rs, ur⟩
    · simp only [ok_B, ok_C, ok_R, ok_L, ok_K, ok_GI, ok_GL, ok_PI, ok_PL, ok_AI, ok_AL, ok_SI, ok_SL, ok_Pr, ok_CI, cmp_lt, cmp_le, cmp_gt, cmp_ge, cmp_eq, nar0, nar1, Sum.elim_inl, Sum.elim_inr]
      exact Rs.vz vt ld rs ur
    · simp only [ok_B, ok_C, ok_R, ok_L, ok_K, ok_GI, ok_GL, ok_PI, ok_PL, ok_AI, ok_AL, ok_SI, ok_SL, ok_Pr, ok_CI, cmp_lt, cmp_le, cmp_gt, cmp_ge, cmp_eq, nar0, nar1, Sum.elim_inl, Sum.elim_inr]
      exact Rs.vz vt ld rs ur
  have j24 : ∀ k : Int32, (k = 0 ∨ k = 1) → (k = 0 → 0 ≤ a) → ok (M_Mo_run_j24 a k 1) (sI s 2 0 0) (vlQ n e) := fun k hk ha => by
    simp only [M_Mo_run_j24, ok_B, ok_C, ok_R, ok_L, ok_K, ok_GI, ok_GL, ok_PI, ok_PL, ok_AI, ok_AL, ok_SI, ok_SL, ok_Pr, ok_CI, cmp_lt, cmp_le, cmp_gt, cmp_ge, cmp_eq, nar0, nar1, Sum.elim_inl, Sum.elim_inr]
    refine ok_mono (rrefuse_ok (h.t2 0) 1 k hk) ?_
    rintro v t ⟨ev, vt, st⟩
    exact ⟨fun z => ⟨fun _ => j44 t 1 vt (.inr rfl) (fun y => absurd y (by decide)), fun c => j44 t 0 vt (.inl rfl) (fun _ => ⟨c, ha (ev.symm.trans z)⟩)⟩, fun _ => vt⟩
  simp only [M_Mo_run, M_Mo_run_j19, ok_B, ok_C, ok_R, ok_L, ok_K, ok_GI, ok_GL, ok_PI, ok_PL, ok_AI, ok_AL, ok_SI, ok_SL, ok_Pr, ok_CI, cmp_lt, cmp_le, cmp_gt, cmp_ge, cmp_eq, nar0, nar1, Sum.elim_inl, Sum.elim_inr]
  refine ⟨fun _ => j24 1 (.inr rfl) (fun z => absurd z (by decide)), fun c => ⟨fun c2 => j24 0 (.inl rfl) (fun _ => ?_), fun _ => j24 1 (.inr rfl) (fun z => absurd z (by decide))⟩⟩
  rw [i32_lt] at c
  rw [i32_le]
  omega
theorem rcollection {s : S1} (h : Rs s) : ok M_Mo_collection s (fun _ t => Rs t) := by
  have gg := h.gg
  obtain ⟨r1, r2⟩ := gg.1.1.2 gg.2
  refine ok_mono (gc_ok s (Hp.mk gg.1.1.1 r1 r2)) fun _ t ⟨hp, hg⟩ => ?_
  have nx := Nx.gcx gg.1 ⟨hp.q, fun _ => ⟨hp.2.2.2.2.2.2.1, hp.2.2.2.2.2.2.2⟩⟩ hg.x ⟨Or.inl (hg.I 73 (by decide) 0), fun z => absurd gg.2 z⟩
  have rx := nx.rx gg.2
  refine ⟨by rw [hg.I 95 (by decide) 0]; exact h.1, ?_⟩
  rcases h.2 with w | w
  · exact .inl ⟨rx.1, rx.2.1, (hg.I 2050 (by decide) 0).trans w.2.2.1, by rw [hg.I 80 (by decide) 0]; exact w.2.2.2⟩
  · obtain ⟨g, z, hh, o⟩ := w
    have fr : ∀ τ, Fr τ s → Fr τ t := fun τ f => f.fe (rx.2.2.1 f.2.2.1)
    refine .inr ⟨rx.1, rx.2.1, (hg.I 2050 (by decide) 0).trans hh, ?_⟩
    have e73 : f_todo t = f_todo s := hg.I 73 (by decide) 0
    rw [e73]
    rcases o with ⟨a, b, c⟩ | ⟨a, b⟩ | ⟨a, b, c⟩ | ⟨a, b, c⟩
    · obtain ⟨sc, st, sq, -⟩ := Rx.same (τ := false) (s := s) (s' := t) ⟨g, z, b⟩ rx c.1 c.2.1
      have fe := rx.2.2.1 b.2.2.1
      refine Or.inl ⟨a, fr _ b, ?_⟩
      have e5 : ∀ p q, wd t p q = wd s p q := fun p q => by
        show gA t 55 0 (gA t 49 0 p + q) = gA s 55 0 (gA s 49 0 p + q)
        rw [fe.2.1 49 _ _ (by decide), fe.2.1 55 _ _ (by decide)]
      unfold Run at c ⊢
      rw [sc, st, sq]
      simp only [e5]
      simp only [t_kind, t_pc, t_rowCount, t_rowAt, a_codes, fe.2.1 30 _ _ (by decide), fe.2.1 32 _ _ (by decide), fe.2.1 35 _ _ (by decide), fe.2.1 36 _ _ (by decide), fe.2.1 50 _ _ (by decide)] at *
      exact c
    · exact Or.inr (Or.inl ⟨a, fr _ b⟩)
    · refine Or.inr (Or.inr (Or.inl ⟨a, fr _ b, ?_⟩))
      show gI t 898 0 ≤ 250
      rw [hg.I 898 (by decide)]
      exact c
    · refine Or.inr (Or.inr (Or.inr ⟨a, fr _ b, ?_⟩))
      show gI t 1282 0 ≤ 250
      rw [hg.I 1282 (by decide)]
      exact c
theorem rcollect_ok {s : S1} {n e : Nat × Nat} (h : Vz s n e) : ok M_Mo_collect s (vlQ n e) := by
  have j19 : ∀ k : Int32, (k = 0 ∨ k = 1) → (k = 0 → f_chunk (sI s 2 0 0) ≠ 0) → ok (M_Mo_collect_j19 k 1) (sI s 2 0 0) (vlQ n e) := fun k hk hc => by
    simp only [M_Mo_collect_j19, ok_B, ok_C, ok_R, ok_L, ok_K, ok_GI, ok_GL, ok_PI, ok_PL, ok_AI, ok_AL, ok_SI, ok_SL, ok_Pr, ok_CI, cmp_lt, cmp_le, cmp_gt, cmp_ge, cmp_eq, nar0, nar1, Sum.elim_inl, Sum.elim_inr]
    refine ok_mono (rrefuse_ok (h.t2 0) 1 k hk) ?_
    rintro v t ⟨ev, vt, st⟩
    refine ⟨fun z => ?_, fun _ => vt⟩
    have k0 : k = 0 := ev.symm.trans z
    have ld : f_chunk t ≠ 0 := by
      rw [st k0]
      exact hc k0
    refine ok_mono ((rcollection (vz_ch vt ld)).uk uk_Mo_collection) ?_
    rintro - w ⟨rs, ur⟩
    exact Rs.vz vt ld rs ur
  simp only [M_Mo_collect, ok_B, ok_C, ok_R, ok_L, ok_K, ok_GI, ok_GL, ok_PI, ok_PL, ok_AI, ok_AL, ok_SI, ok_SL, ok_Pr, ok_CI, cmp_lt, cmp_le, cmp_gt, cmp_ge, cmp_eq, nar0, nar1, Sum.elim_inl, Sum.elim_inr]
  exact ⟨fun _ => j19 1 (.inr rfl) (fun z => absurd z (by decide)), fun c => j19 0 (.inl rfl) (fun _ => c)⟩
