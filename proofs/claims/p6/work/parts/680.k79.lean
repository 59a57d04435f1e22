/-! The class: perform. -/
theorem ok.zk {α : Type} {f : M α} {s : S1} {z : Nat} {b : Bool} {Q : α → S1 → Prop} (h : ok f s Q) (k : Zk z b f) : ok f s (fun a t => Q a t ∧ Zr z b s t) := by
  obtain ⟨a, t, e, q⟩ := ok_out h
  exact ok_in e ⟨q, k s a t e⟩
theorem outR.zk {z : Nat} {s t : S1} (h : outR s) (k : Zr z true s t) : outR t := by
  unfold outR
  rw [k.2.2.2.2 rfl]
  exact h
theorem per343_ok {t : S1} {m : Nat × Nat} (h : Po t m) (o : outR t) : ok (M_Bu_perform_j343 m) t (fun r u => Po u r.2 ∧ outR u) := by
  simp only [M_Bu_perform_j343, ok_B, ok_C, ok_R, ok_L, ok_K, ok_GI, ok_GL, ok_PI, ok_PL, ok_AI, ok_AL, ok_SI, ok_SL, ok_CI, cmp_lt, cmp_le, cmp_gt, cmp_ge, cmp_eq, nar0, nar1, Sum.elim_inl, Sum.elim_inr, ok_PzT, ok_PzC, ok_PzP, ok_PrC, ok_PrP, ok_PrF, ok_PrN, ok_Ln, ok_CL, ok_Nw, ok_S, ok_Ks, ok_Nz]
  refine ⟨fun c => ?_, fun _ => ⟨h, o⟩⟩
  refine ok_mono (rClear_ok 132 t) ?_
  rintro - u ⟨kx, zu⟩
  have ou : outR u := by
    unfold outR
    rw [kx.1 _ _ (by decide)]
    exact o
  rcases h with h | h | h
  · have := h.2.2.2.1
    rw [c] at this
    exact absurd this (by decide)
  · exact ⟨.inr (.inl (h.arg kx (cRow.nil zu))), ou⟩
  · have := h.2.2.2.1
    rw [c] at this
    exact absurd this (by decide)
theorem perform_ok {s : S1} {n : Nat × Nat} (h : St2 s n) (o : outR s) : ok (M_Bu_perform n) s (fun r t => Po t r.2 ∧ outR t) := by
  obtain ⟨W, F, h1, t2, an⟩ := h
  simp only [M_Bu_perform, ok_B, ok_C, ok_R, ok_L, ok_K, ok_GI, ok_GL, ok_PI, ok_PL, ok_AI, ok_AL, ok_SI, ok_SL, ok_CI, cmp_lt, cmp_le, cmp_gt, cmp_ge, cmp_eq, nar0, nar1, Sum.elim_inl, Sum.elim_inr, ok_PzT, ok_PzC, ok_PzP, ok_PrC, ok_PrP, ok_PrF, ok_PrN, ok_Ln, ok_CL, ok_Nw, ok_S, ok_Ks, ok_Nz]
  refine ok_mono (rClear_ok 135 s) ?_
  rintro - s1 ⟨kx, z1⟩
  have l := cRx.lw (.inr (.inl rfl)) kx
  obtain ⟨q1, q2, q3, q4⟩ := cRx.kept (.inr (.inl rfl)) kx W (fun z => absurd rfl z)
  have W1 := l.w W F.weak q1 q2 q3 q4
  have F1 := l.fr W F (fun _ => rfl)
  have st1 : gI s1 18951 (mCur s1) = 1 := by
    rw [l.cur, kx.1 _ _ (by decide)]
    exact h1
  have s3 := turn3 W1 F1 st1 (cRow.nil z1)
  have i3 : ∀ f j, f ≠ 16396 → gI (sI s1 16396 0 3) f j = gI s1 f j := fun f j q => by rw [gI_sI, if_neg (fun z => q z.1)]
  have z3 : rwS (sI s1 16396 0 3) 135 = 0 := (i3 _ _ (by decide)).trans z1
  have p : Pf (sI s1 16396 0 3) n := by
    refine ⟨s3, ?_⟩
    rw [show rwS (sI s1 16396 0 3) 132 = rwS s 132 from (i3 _ _ (by decide)).trans (kx.1 _ _ (by decide))]
    exact an
  have o3 : outR (sI s1 16396 0 3) := by
    unfold outR
    rw [i3 _ _ (by decide), kx.1 _ _ (by decide)]
    exact o
  clear s3 st1 F1 W1 q1 q2 q3 q4 l i3 kx z1 an t2 h1 F W o
  generalize sI s1 16396 0 3 = u at p z3 o3 ⊢
  have fi : ∀ {α : Type} {f : M α} {g : α → Nat × Nat}, ok f u (fun r t => Po t (g r)) → Zk 111 true f → ok f u (fun r t => ok (M_Bu_perform_j343 (g r)) t (fun r t => Po t r.2 ∧ outR t)) := fun {α} {f} {g} a b => by
    refine ok_mono (a.zk b) ?_
    rintro r t ⟨q1, q2⟩
    exact per343_ok q1 (o3.zk q2)
  have fu : ∀ {f : M Unit}, ok f u (fun _ t => Po t n) → Zk 111 true f → ok f u (fun _ t => ok (M_Bu_perform_j343 n) t (fun r t => Po t r.2 ∧ outR t)) := fun {f} a b => fi (g := fun _ => n) a b
  generalize (-1 - gL u 16398 0).toInt32 = k
  refine ⟨fun _ => ?_, fun _ => ⟨fun _ => fi (g := fun r => r.2) (makeText_ok p z3) (zk_Bu_makeText _), fun _ => ⟨fun _ => ?_, fun _ => ⟨fun _ => ?_, fun _ => ⟨fun _ => fu (callProtected_ok p) zk_Bu_callProtected, fun _ => ⟨fun _ => fu (setMeta_ok p z3) zk_Bu_setMetatable, fun _ => ⟨fun _ => fu (getMeta_ok p) zk_Bu_getMetatable, fun _ => ⟨fun _ => fu (readRaw_ok p) zk_Bu_readRaw, fun _ => ⟨fun _ => fu (writeRaw_ok p z3) zk_Bu_writeRaw, fun _ => ⟨fun _ => fu (measureRaw_ok p z3) zk_Bu_measureRaw, fun _ => ⟨fun _ => fu (compareRaw_ok p) zk_Bu_compareRaw, fun _ => ⟨fun _ => fu (next_ok p) zk_Bu_next, fun _ => ⟨fun _ => fu (select_ok p) zk_Bu_select, fun _ => ⟨fun _ => fi (g := fun r => r.2) (cut_ok p z3) (zk_Bu_cut _), fun _ => ⟨fun _ => fu (tellByte_ok p) zk_Bu_tellByte, fun _ => ⟨fun _ => fi (g := fun r => r.2) (makeOfBytes_ok p z3) (zk_Bu_makeOfBytes _), fun _ => ⟨fun _ => fu (measureB_ok p) zk_Bu_measure, fun _ => ⟨fun _ => fi (g := fun r => r.2) (create_ok p z3) (zk_Bu_create _), fun _ => ⟨fun _ => fu (resume_ok p) zk_Bu_resume, fun _ => ⟨fun _ => fu (giveWay_ok p) zk_Bu_giveWay, fun _ => ⟨fun _ => fu (tellStatus_ok p) zk_Bu_tellStatus, fun _ => ⟨fun _ => fu (tellRunning_ok p) zk_Bu_tellRunning, fun _ => ⟨fun _ => fi (g := fun r => r.2) (wrap_ok p z3) (zk_Bu_wrap _), fun _ => fu (cleanUp_ok p z3) zk_Bu_cleanUp⟩⟩⟩⟩⟩⟩⟩⟩⟩⟩⟩⟩⟩⟩⟩⟩⟩⟩⟩⟩⟩⟩⟩
  · refine ok_mono (print_ok p o3) ?_
    rintro r t ⟨q1, q2⟩
    exact per343_ok q1 q2
  · have a5 := p.a5
    have kr := (p.kv (i := 0) (by decide)).kr
    rw [ok_kA a5 (by decide)]
    generalize rk u 132 0 = x at kr ⊢
    have e0 : (0 : Int32).toInt = 0 := rfl
    have e1 : (1 : Int32).toInt = 1 := rfl
    have e7 : (7 : Int32).toInt = 7 := rfl
    have e46 : (46 : Int32).toInt = 46 := rfl
    have k0 := kr.1
    have k1 := kr.2
    rw [i32_le] at k0 k1
    have fin : ∀ y : Int32, 0 ≤ y.toInt → y.toInt ≤ 7 → (0 ≤ 46 + y ∧ 46 + y < 57) ∧ ok (M_Ro_add 135 0 4 (gA u 115 0 (46 + y)).toInt64) u (fun _ t => ok (M_Bu_perform_j343 n) t (fun r t => Po t r.2 ∧ outR t)) := fun y y0 y1 => by
      have e : (46 + y).toInt = 46 + y.toInt := by rw [ktI_add] <;> omega
      obtain ⟨n1, n2⟩ := W_name p.w (i := 46 + y) (by omega) (by omega)
      exact ⟨n1, fu (p.1.addP n2) (zk_Ro_add _ _ _ _ (by decide))⟩
    simp only [M_Bu_typeOf, ok_B, ok_C, ok_R, ok_L, ok_K, ok_GI, ok_GL, ok_PI, ok_PL, ok_AI, ok_AL, ok_SI, ok_SL, ok_CI, cmp_lt, cmp_le, cmp_gt, cmp_ge, cmp_eq, nar0, nar1, Sum.elim_inl, Sum.elim_inr, ok_PzT, ok_PzC, ok_PzP, ok_PrC, ok_PrP, ok_PrF, ok_PrN, ok_Ln, ok_CL, ok_Nw, ok_S, ok_Ks, ok_Nz]
    refine ⟨fun c => ?_, fun c => fin x (by omega) (by omega)⟩
    rw [i32_lt] at c
    have e : (x - 1).toInt = x.toInt - 1 := by rw [ktI_sub] <;> omega
    exact fin (x - 1) (by omega) (by omega)
  · have a5 := p.a5
    have kv := p.kv (i := 0) (by decide)
    rw [ok_kA a5 (by decide), ok_vA a5 (by decide)]
    refine ok_mono ((raise_ok (rk u 132 0) (rv u 132 0) u).zk (zk_Ma_raise _ _)) ?_
    rintro - t ⟨⟨f, r1, r2⟩, q2⟩
    refine per343_ok (.inr (.inr (f.st5 p.w p.1.2.1 p.1.2.2.1 ?_))) (o3.zk q2)
    rw [r1, r2]
    exact kv
