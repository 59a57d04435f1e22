/-! The class: perform as a whole. -/
theorem Rp.c {s t : S1} {n : Nat × Nat} (h : Rp s n t) {u : S1} (o : outR t) (ku : Om s ≤ Om u) (kd : oD s (mCur s) = oD u (mCur u)) : ok (M_Bu_perform_j343 n) t (fun r w => Rp u r.2 w ∧ outR w) := by
  have up : ∀ w, Rp s n w → Rp u n w := fun w h => by
    rcases h with ⟨a, b, c⟩ | ⟨a, b⟩
    · rw [kd] at b c
      exact .inl ⟨a, b.imp (fun z => ⟨by omega, z.2⟩) (fun z => by omega), c⟩
    · exact .inr ⟨a, by omega⟩
  simp only [M_Bu_perform_j343, ok_B, ok_C, ok_R, ok_L, ok_K, ok_GI, ok_GL, ok_PI, ok_PL, ok_AI, ok_AL, ok_SI, ok_SL, ok_CI, cmp_lt, cmp_le, cmp_gt, cmp_ge, cmp_eq, nar0, nar1, Sum.elim_inl, Sum.elim_inr, ok_PzT, ok_PzC, ok_PzP, ok_PrC, ok_PrP, ok_PrF, ok_PrN, ok_Ln, ok_CL, ok_Nw, ok_S, ok_Ks, ok_Nz]
  refine ⟨fun c => ?_, fun _ => ⟨up t h, o⟩⟩
  refine ok_mono ((rClear_ok 132 t).wh ((ko_Ro_clear 132 0 (by decide)).h t)) ?_
  rintro - w ⟨⟨kx, zw⟩, k⟩
  have ol := k.oM
  have ow : outR w := by
    unfold outR
    rw [kx.1 _ _ (by decide)]
    exact o
  refine ⟨up w ?_, ow⟩
  rcases h with ⟨h, -⟩ | ⟨h | h, b⟩
  · have := h.2.2.2.1
    rw [c] at this
    exact absurd this (by decide)
  · exact .inr ⟨.inl (h.arg kx (cRow.nil zw)), by omega⟩
  · have := h.2.2.2.1
    rw [c] at this
    exact absurd this (by decide)
theorem performM {s : S1} {n : Nat × Nat} (h : St2 s n) (o : outR s) : ok (M_Bu_perform n) s (fun r t => Rp s r.2 t ∧ outR t) := by
  obtain ⟨W, F, h1, t2, an⟩ := h
  simp only [M_Bu_perform, ok_B, ok_C, ok_R, ok_L, ok_K, ok_GI, ok_GL, ok_PI, ok_PL, ok_AI, ok_AL, ok_SI, ok_SL, ok_CI, cmp_lt, cmp_le, cmp_gt, cmp_ge, cmp_eq, nar0, nar1, Sum.elim_inl, Sum.elim_inr, ok_PzT, ok_PzC, ok_PzP, ok_PrC, ok_PrP, ok_PrF, ok_PrN, ok_Ln, ok_CL, ok_Nw, ok_S, ok_Ks, ok_Nz]
  refine ok_mono ((rClear_ok 135 s).wh ((ko_Ro_clear 135 0 (by decide)).h s)) ?_
  rintro - s1 ⟨⟨kx, z1⟩, k1⟩
  have l := cRx.lw (.inr (.inl rfl)) kx
  obtain ⟨q1, q2, q3, q4⟩ := cRx.kept (.inr (.inl rfl)) kx W (fun z => absurd rfl z)
  have W1 := l.w W F.weak q1 q2 q3 q4
  have F1 := l.fr W F (fun _ => rfl)
  have st1 : gI s1 18951 (mCur s1) = 1 := by
    rw [l.cur, kx.1 _ _ (by decide)]
    exact h1
  have s3 := turn3 W1 F1 st1 (cRow.nil z1)
  have i3 : ∀ f j, f ≠ 16396 → gI (sI s1 16396 0 3) f j = gI s1 f j := fun f j q => by rw [gI_sI, if_neg (fun z => q z.1)]
  have z3 : rwS (sI s1 16396 0 3) 135 = 0 := (i3 _ _ (by decide)).trans z1
  have p : Pf (sI s1 16396 0 3) n := by
    refine ⟨s3, ?_⟩
    rw [show rwS (sI s1 16396 0 3) 132 = rwS s 132 from (i3 _ _ (by decide)).trans (kx.1 _ _ (by decide))]
    exact an
  have o3 : outR (sI s1 16396 0 3) := by
    unfold outR
    rw [i3 _ _ (by decide), kx.1 _ _ (by decide)]
    exact o
  have k2 : Kor true false s (sI s1 16396 0 3) := Kor.trans k1.wu (ko_PI5 s1 () _ rfl)
  have ku := k2.oM
  have kd : oD (sI s1 16396 0 3) (mCur (sI s1 16396 0 3)) = oD s (mCur s) := by rw [k2.od, show mCur (sI s1 16396 0 3) = mCur s from k2.2.2.2.2.1 rfl]
  clear s3 st1 F1 W1 q1 q2 q3 q4 l i3 kx z1 an t2 h1 F W o k1 k2
  generalize sI s1 16396 0 3 = u at p z3 o3 ku kd ⊢
  have fR : ∀ {α : Type} {f : M α} {g : α → Nat × Nat}, ok f u (fun r t => Rp u (g r) t) → Zk 111 true f → ok f u (fun r t => ok (M_Bu_perform_j343 (g r)) t (fun r t => Rp s r.2 t ∧ outR t)) := fun {α} {f} {g} a b => by
    refine ok_mono (a.zk b) ?_
    rintro r t ⟨q1, q2⟩
    exact q1.c (o3.zk q2) ku kd
  have fq : ∀ {α : Type} {f : M α} {g : α → Nat × Nat} {c w : Bool}, ok f u (fun r t => Pq t (g r)) → Zk 111 true f → Kok c w f → ok f u (fun r t => ok (M_Bu_perform_j343 (g r)) t (fun r t => Rp s r.2 t ∧ outR t)) := fun {α} {f} {g} {c} {w} a b k => fR (Rp.q a k (by omega)) b
  have fu : ∀ {f : M Unit} {c w : Bool}, ok f u (fun _ t => Pq t n) → Zk 111 true f → Kok c w f → ok f u (fun _ t => ok (M_Bu_perform_j343 n) t (fun r t => Rp s r.2 t ∧ outR t)) := fun {f} {c} {w} a b k => fq (g := fun _ => n) a b k
  have fr : ∀ {f : M Unit}, ok f u (fun _ t => Rp u n t) → Zk 111 true f → ok f u (fun _ t => ok (M_Bu_perform_j343 n) t (fun r t => Rp s r.2 t ∧ outR t)) := fun {f} a b => fR (g := fun _ => n) a b
  generalize (-1 - gL u 16398 0).toInt32 = k
  refine ⟨fun _ => ?_, fun _ => ⟨fun _ => fR (g := fun r => r.2) (makeTextM p z3) (zk_Bu_makeText _), fun _ => ⟨fun _ => ?_, fun _ => ⟨fun _ => ?_, fun _ => ⟨fun _ => fr (callProtectedM p) zk_Bu_callProtected, fun _ => ⟨fun _ => fu (setMeta_ok p z3) zk_Bu_setMetatable ko_Bu_setMetatable, fun _ => ⟨fun _ => fu (getMeta_ok p) zk_Bu_getMetatable ko_Bu_getMetatable, fun _ => ⟨fun _ => fu (readRaw_ok p) zk_Bu_readRaw ko_Bu_readRaw, fun _ => ⟨fun _ => fu (writeRaw_ok p z3) zk_Bu_writeRaw ko_Bu_writeRaw, fun _ => ⟨fun _ => fu (measureRaw_ok p z3) zk_Bu_measureRaw ko_Bu_measureRaw, fun _ => ⟨fun _ => fu (compareRaw_ok p) zk_Bu_compareRaw ko_Bu_compareRaw, fun _ => ⟨fun _ => fu (next_ok p) zk_Bu_next ko_Bu_next, fun _ => ⟨fun _ => fu (select_ok p) zk_Bu_select ko_Bu_select, fun _ => ⟨fun _ => fq (g := fun r => r.2) (cut_ok p z3) (zk_Bu_cut _) (ko_Bu_cut _), fun _ => ⟨fun _ => fu (tellByte_ok p) zk_Bu_tellByte ko_Bu_tellByte, fun _ => ⟨fun _ => fq (g := fun r => r.2) (makeOfBytes_ok p z3) (zk_Bu_makeOfBytes _) (ko_Bu_makeOfBytes _), fun _ => ⟨fun _ => fu (measureB_ok p) zk_Bu_measure ko_Bu_measure, fun _ => ⟨fun _ => fR (g := fun r => r.2) (createM p z3) (zk_Bu_create _), fun _ => ⟨fun _ => fr (resumeM p) zk_Bu_resume, fun _ => ⟨fun _ => fr (giveWayM p) zk_Bu_giveWay, fun _ => ⟨fun _ => fu (tellStatus_ok p) zk_Bu_tellStatus ko_Bu_tellStatus, fun _ => ⟨fun _ => fu (tellRunning_ok p) zk_Bu_tellRunning ko_Bu_tellRunning, fun _ => ⟨fun _ => fR (g := fun r => r.2) (wrapM p z3) (zk_Bu_wrap _), fun _ => fu (cleanUp_ok p z3) zk_Bu_cleanUp ko_Bu_cleanUp⟩⟩⟩⟩⟩⟩⟩⟩⟩⟩⟩⟩⟩⟩⟩⟩⟩⟩⟩⟩⟩⟩⟩
  · refine ok_mono ((print_ok p o3).wh ((ko_Bu_print n).h u)) ?_
    rintro r t ⟨⟨q1, q2⟩, k⟩
    have ol := k.oM
    exact Rp.c (s := u) (.inr ⟨q1, by omega⟩) q2 ku kd
  · have a5 := p.a5
    have kr := (p.kv (i := 0) (by decide)).kr
    rw [ok_kA a5 (by decide)]
    generalize rk u 132 0 = x at kr ⊢
    have e0 : (0 : Int32).toInt = 0 := rfl
    have e1 : (1 : Int32).toInt = 1 := rfl
    have e7 : (7 : Int32).toInt = 7 := rfl
    have e46 : (46 : Int32).toInt = 46 := rfl
    have k0 := kr.1
    have k1 := kr.2
    rw [i32_le] at k0 k1
    have fin : ∀ y : Int32, 0 ≤ y.toInt → y.toInt ≤ 7 → (0 ≤ 46 + y ∧ 46 + y < 57) ∧ ok (M_Ro_add 135 0 4 (gA u 115 0 (46 + y)).toInt64) u (fun _ t => ok (M_Bu_perform_j343 n) t (fun r t => Rp s r.2 t ∧ outR t)) := fun y y0 y1 => by
      have e : (46 + y).toInt = 46 + y.toInt := by rw [ktI_add] <;> omega
      obtain ⟨n1, n2⟩ := W_name p.w (i := 46 + y) (by omega) (by omega)
      exact ⟨n1, fu (p.1.addP n2) (zk_Ro_add _ _ _ _ (by decide)) (ko_Ro_add _ _ _ _ (by decide))⟩
    simp only [M_Bu_typeOf, ok_B, ok_C, ok_R, ok_L, ok_K, ok_GI, ok_GL, ok_PI, ok_PL, ok_AI, ok_AL, ok_SI, ok_SL, ok_CI, cmp_lt, cmp_le, cmp_gt, cmp_ge, cmp_eq, nar0, nar1, Sum.elim_inl, Sum.elim_inr, ok_PzT, ok_PzC, ok_PzP, ok_PrC, ok_PrP, ok_PrF, ok_PrN, ok_Ln, ok_CL, ok_Nw, ok_S, ok_Ks, ok_Nz]
    refine ⟨fun c => ?_, fun c => fin x (by omega) (by omega)⟩
    rw [i32_lt] at c
    have e : (x - 1).toInt = x.toInt - 1 := by rw [ktI_sub] <;> omega
    exact fin (x - 1) (by omega) (by omega)
  · have a5 := p.a5
    have kv := p.kv (i := 0) (by decide)
    rw [ok_kA a5 (by decide), ok_vA a5 (by decide)]
    refine ok_mono (((raise_ok (rk u 132 0) (rv u 132 0) u).zk (zk_Ma_raise _ _)).wh ((ko_Ma_raise _ _).h u)) ?_
    rintro - t ⟨⟨⟨f, r1, r2⟩, q2⟩, k⟩
    have ol := k.oM
    refine Rp.c (s := u) (.inr ⟨.inr (f.st5 p.w p.1.2.1 p.1.2.2.1 ?_), by omega⟩) (o3.zk q2) ku kd
    rw [r1, r2]
    exact kv
