/-! The class: moves. -/
theorem Ix.wn {s : S1} {n : Nat × Nat} {i w : Int32} (x : Ix s n i w) : dWn s (fPr s (tF s)) i w (dO w).toInt (dA w).toInt (dB w).toInt (dC w).toInt := by
  have h := x.wf.2.2.2.2
  rw [x.2.2.2.2.2.2.2.2] at h
  exact h
theorem Ix.o {s : S1} {n : Nat × Nat} {i w : Int32} (x : Ix s n i w) : gI s 16520 0 = dO w ∧ gI s 16521 0 = dA w ∧ gI s 16522 0 = dB w ∧ gI s 16523 0 = dC w ∧ gI s 16524 0 = dX w := x.2.2.2.2.2.2.1
theorem Ix.nr {s : S1} {n : Nat × Nat} {i w : Int32} (x : Ix s n i w) : pNr s (fPr s (tF s)) ≤ 250 := x.tp.2.2.1.2.2.1.2
theorem Ix.xr {s : S1} {n : Nat × Nat} {i w r : Int32} (x : Ix s n i w) (r0 : 0 ≤ r.toInt) (h : r.toInt < pNr s (fPr s (tF s))) : xOk s r := xOk.r r0 h x.nr
theorem Ix.xA {s : S1} {n : Nat × Nat} {i w : Int32} (x : Ix s n i w) (h : (dA w).toInt < pNr s (fPr s (tF s))) : xOk s (gI s 16521 0) := by
  rw [x.o.2.1]
  exact x.xr (dA_in w).1 h
theorem Ix.xB {s : S1} {n : Nat × Nat} {i w : Int32} (x : Ix s n i w) (h : (dB w).toInt < pNr s (fPr s (tF s))) : xOk s (gI s 16522 0) := by
  rw [x.o.2.2.1]
  exact x.xr (dB_in w).1 h
theorem Ix.qB {s : S1} {n : Nat × Nat} {i w : Int32} (x : Ix s n i w) (h : dQ s (fPr s (tF s)) (dB w)) : xOk s (gI s 16522 0) := by
  rw [x.o.2.2.1]
  exact ⟨(dB_in w).1, h⟩
theorem Ix.xC {s : S1} {n : Nat × Nat} {i w : Int32} (x : Ix s n i w) (h : (dC w).toInt < pNr s (fPr s (tF s))) : xOk s (gI s 16523 0) := by
  rw [x.o.2.2.2.1]
  exact x.xr (dC_in w).1 h
theorem Ix.qC {s : S1} {n : Nat × Nat} {i w : Int32} (x : Ix s n i w) (h : dQ s (fPr s (tF s)) (dC w)) : xOk s (gI s 16523 0) := by
  rw [x.o.2.2.2.1]
  exact ⟨(dC_in w).1, h⟩
/-- the newest frame goes on elsewhere -/
theorem pc_ix {s : S1} {n : Nat × Nat} {i w : Int32} (x : Ix s n i w) (q : Int32) : lw false s (sI s 19461 (tF s) q) ∧ Ix (sI s 19461 (tF s) q) n i w := by
  have l : lw false s (sI s 19461 (tF s) q) := by
    refine ⟨fun f j z => ?_, fun j z => ⟨?_, ?_⟩, fun j z => ⟨?_, rfl⟩, fun _ _ _ => rfl, fun _ _ _ _ => rfl, fun _ _ _ => rfl, fun _ _ _ _ => rfl, fun _ _ _ => rfl⟩
    · rw [gI_sI, if_neg (fun y => z (by rw [y.1]; unfold lwX; decide))]
    · rw [gI_sI, if_neg (fun y => ?_)]
      rcases z with z | z
      · exact absurd z (by decide)
      · exact z ⟨x.2.2.2.1, y.2⟩
    · rw [gI_sI, if_neg (fun y => absurd y.1 (by decide))]
    · rw [gI_sI, if_neg (fun y => absurd y.1 (by decide))]
  obtain ⟨p1, p2, p3, p4⟩ := l.pure x.w rfl (fun f j z => by rw [gI_sI, if_neg (fun y => by omega)]) (fun _ => rfl)
  exact ⟨l, x.lw l p1 p2 p3 p4⟩
/-- how an instruction ends: as its work did, or elsewhere -/
def Os (s : S1) (n : Nat × Nat) (i w : Int32) (t : S1) : Prop := Oi s n i w t ∨ (Ix t n i w ∧ gI t 16396 0 = gI s 16396 0 ∧ dGs t (fPr t (tF t)) (gI t 19461 (tF t)))
theorem Oi.trans {s t u : S1} {n m : Nat × Nat} {i w : Int32} (a : Oi s n i w t) (ha : gI t 16396 0 = gI s 16396 0) (b : Oi t m i w u) : Oi s m i w u := by
  obtain ⟨a1, ⟨a2, a3, a4⟩, -⟩ := a
  obtain ⟨b1, ⟨b2, b3, b4⟩, b5⟩ := b
  rw [ha] at b5
  exact ⟨b1, ⟨b2.trans a2, b3.trans a3, b4.trans a4⟩, b5⟩
theorem Os.trans {s t u : S1} {n m : Nat × Nat} {i w : Int32} (a : Oi s n i w t) (ha : gI t 16396 0 = gI s 16396 0) (b : Os t m i w u) : Os s m i w u := by
  rcases b with b | b
  · exact .inl (a.trans ha b)
  · exact .inr ⟨b.1, b.2.1.trans ha, b.2.2⟩
theorem stQ.lv {s t : S1} {n : Nat × Nat} {i w r k : Int32} {v : Int64} (h : stQ s n i w r k v t) : cLv false t = cLv false s := by
  funext y u
  rw [cLv_f, cLv_f, show cN t = cN s from h.2.1 _ _, show cTy t y = cTy s y from h.2.1 _ _]
theorem skip_os {s : S1} {n : Nat × Nat} {i w q : Int32} (x : Ix s n i w) (h : dGs s (fPr s (tF s)) q) : Os s n i w (sI s 19461 (tF s) q) := by
  obtain ⟨l, xt⟩ := pc_ix x q
  refine .inr ⟨xt, ?_, ?_⟩
  · rw [gI_sI, if_neg (fun y => absurd y.1 (by decide))]
  · rw [l.pk.gs, l.etF, show fPr (sI s 19461 (tF s) q) (tF s) = fPr s (tF s) from l.i _ (by unfold lwX; decide) _, gI_sI, if_pos ⟨rfl, rfl⟩]
    exact h
theorem opI {w : Int32} {k : Int32} (h : dO w = k) : (dO w).toInt = k.toInt := by rw [h]
theorem mvNil_ok {s : S1} {n : Nat × Nat} {i w : Int32} (x : Ix s n i w) (o : (dO w).toInt = 4) : ok (oW M_St_move_L191 (dA w)) s (fun _ t => Oi s n i w t) := by
  have e1 : (1 : Int32).toInt = 1 := rfl
  have dAi := dA_in w
  have dBi := dB_in w
  have eab : (dA w + dB w).toInt = (dA w).toInt + (dB w).toInt := by rw [ktI_add] <;> omega
  refine ok_W (fun y t => (Oi s n i w t ∧ gI t 16396 0 = gI s 16396 0) ∧ (dA w).toInt ≤ y.toInt ∧ y.toInt ≤ (dA w).toInt + (dB w).toInt + 1) (fun y _ => ((dA w).toInt + (dB w).toInt + 1 - y.toInt).toNat) ?_ (dA w) s ⟨⟨Oi.refl x, rfl⟩, by omega, by omega⟩
  rintro y t ⟨⟨ot, tt⟩, y0, y1⟩
  have xt := ot.1
  have w4 := xt.wn.2.2.2.1 o
  simp only [M_St_move_L191, ok_B, ok_C, ok_R, ok_L, ok_K, ok_GI, ok_GL, ok_PI, ok_PL, ok_AI, ok_AL, ok_SI, ok_SL, ok_CI, cmp_lt, cmp_le, cmp_gt, cmp_ge, cmp_eq, nar0, nar1, Sum.elim_inl, Sum.elim_inr, ok_PzT, ok_PzC, ok_PzP, ok_PrC, ok_PrP, ok_PrF, ok_PrN, ok_Ln, ok_CL, ok_Nw, ok_S, ok_Ks, ok_Nz]
  rw [xt.o.2.1, xt.o.2.2.1]
  refine ⟨fun _ => ot, fun c => ?_⟩
  rw [i32_lt, eab] at c
  have ey : (y + 1).toInt = y.toInt + 1 := by rw [ktI_add] <;> omega
  refine ok_mono (set_ok xt (by omega) (by omega) (cV.lit (by decide))) ?_
  rintro - u st
  exact ⟨⟨⟨ot.trans tt st.oi, (st.2.1 _ _).trans tt⟩, by omega, by omega⟩, by omega⟩
theorem move_ok {s : S1} {n : Nat × Nat} {i w : Int32} (x : Ix s n i w) (hp : gI s 19461 (tF s) = i + 1) (ho : dO w = 0 ∨ dO w = 1 ∨ dO w = 3 ∨ dO w = 4 ∨ dO w = 5 ∨ dO w = 6 ∨ dO w = 7 ∨ dO w = 9 ∨ dO w = 12) : ok M_St_move s (fun _ t => Os s n i w t) := by
  have H := x.w.hi
  obtain ⟨c0, c1, c3, c4, c5, c6, c7, c8, c10, c11, c12, -⟩ := x.wn
  obtain ⟨o1, o2, o3, o4, o5⟩ := x.o
  have dAi := dA_in w
  have dBi := dB_in w
  have e1 : (1 : Int32).toInt = 1 := rfl
  simp only [M_St_move, ok_B, ok_C, ok_R, ok_L, ok_K, ok_GI, ok_GL, ok_PI, ok_PL, ok_AI, ok_AL, ok_SI, ok_SL, ok_CI, cmp_lt, cmp_le, cmp_gt, cmp_ge, cmp_eq, nar0, nar1, Sum.elim_inl, Sum.elim_inr, ok_PzT, ok_PzC, ok_PzP, ok_PrC, ok_PrP, ok_PrF, ok_PrN, ok_Ln, ok_CL, ok_Nw, ok_S, ok_Ks, ok_Nz]
  rw [o1]
  refine ⟨fun o => ?_, fun n0 => ⟨fun o => ?_, fun n1 => ⟨fun o => ?_, fun n3 => ⟨fun o => ?_, fun n4 => ⟨fun o => ?_, fun n5 => ⟨fun o => ?_, fun n6 => ⟨fun o => ?_, fun n7 => ⟨fun o => ?_, fun n9 => ?_⟩⟩⟩⟩⟩⟩⟩⟩
  · have h := c0 (.inl (opI o))
    rw [ok_kO x (x.xB h.2), ok_vO x (x.xB h.2), o2]
    refine ok_mono (set_ok x dAi.1 h.1 (x.kv0 (x.xB h.2))) ?_
    rintro - t st
    exact .inl st.oi
  · have h := c1 (opI o)
    obtain ⟨t1, t2, t3, t4, t5, t6, t7⟩ := x.tp
    obtain ⟨a1, a2, a3, a4⟩ := x.2.2.2.2.2.1
    have pp := t3.2.2.2.2.2.1
    have pc := x.w.pg.2.1
    have dXi := dX_in w
    have e2 : (20000 : Int32).toInt = 20000 := rfl
    have e0 : (0 : Int32).toInt = 0 := rfl
    have s1 : (gI s 18438 (fPr s (tF s)) + dX w).toInt = pCs s (fPr s (tF s)) + (dX w).toInt := ktI_add (by show -2147483648 ≤ pCs s (fPr s (tF s)) + (dX w).toInt ∧ pCs s (fPr s (tF s)) + (dX w).toInt < 2147483648; omega)
    rw [a3, o5, o2]
    have b1 : 0 ≤ gI s 18438 (fPr s (tF s)) + dX w ∧ gI s 18438 (fPr s (tF s)) + dX w < 20000 := by
      rw [i32_le, i32_lt]
      omega
    refine ⟨t4, b1, t4, b1, ?_⟩
    refine ok_mono (set_ok x dAi.1 h.1 (x.w.rt.con b1.1 (by rw [i32_lt, s1]; show _ < nCo s; omega))) ?_
    rintro - t st
    exact .inl st.oi
  · have h := c3 (opI o)
    have j : ∀ k : Int32, 0 ≤ k ∧ k ≤ 3 → ok (M_St_move_j155 k (gI s 16521 0)) s (fun _ t => Os s n i w t) := fun k hk => by
      simp only [M_St_move_j155, M_St_move_j179, ok_B, ok_C, ok_R, ok_L, ok_K, ok_GI, ok_GL, ok_PI, ok_PL, ok_AI, ok_AL, ok_SI, ok_SL, ok_CI, cmp_lt, cmp_le, cmp_gt, cmp_ge, cmp_eq, nar0, nar1, Sum.elim_inl, Sum.elim_inr, ok_PzT, ok_PzC, ok_PzP, ok_PrC, ok_PrP, ok_PrF, ok_PrN, ok_Ln, ok_CL, ok_Nw, ok_S, ok_Ks, ok_Nz]
      rw [o2]
      refine ok_mono (set_ok x dAi.1 h.1 (cV.lit hk)) ?_
      rintro - t st
      have xt := st.1
      obtain ⟨a1, a2, a3, a4⟩ := xt.2.2.2.2.2.1
      have et : tF t = tF s := by
        unfold tF mCur oD
        rw [st.2.1, st.2.1]
      have pt : gI t 19461 (tF t) = i + 1 := by
        rw [et, st.2.1]
        exact hp
      rw [a2, xt.o.2.2.2.1, pt]
      have pf := xt.tp.2.2.2.2.1
      refine ⟨pf, fun c => ?_, fun c => ?_⟩
      · rw [Int32.add_zero]
        have : sI t 19461 (tF t) (i + 1) = t := by
          refine Prod.ext ?_ rfl
          funext f j
          show (if f = 19461 ∧ j = tF t then i + 1 else t.1 f j) = t.1 f j
          by_cases z : f = 19461 ∧ j = tF t
          · rw [if_pos z, z.1, z.2]
            exact pt.symm
          · rw [if_neg z]
        rw [this]
        exact .inl st.oi
      · have q := h.2 (fun z => c (toInt_inj z))
        have e2 : i + 1 + 1 = i + 2 := by rw [Int32.add_assoc]; rfl
        rw [e2]
        refine Os.trans st.oi (st.2.1 _ _) (skip_os xt ?_)
        have pk : cPk s t := ⟨fun f j _ => st.2.1 f j, fun a j k z => st.2.2.2.1 a j k (by omega)⟩
        rw [pk.gs, et, show fPr t (tF s) = fPr s (tF s) from st.2.1 _ _]
        exact q
    exact ⟨fun _ => j 1 (by decide), fun _ => j 2 (by decide)⟩
  · rw [o2]
    refine ok_mono (mvNil_ok x (opI o)) ?_
    rintro - t ot
    exact .inl ot
  · have h := c5 (.inl (opI o))
    rw [o3]
    obtain ⟨v8, -⟩ := x.uv dBi.1 h.2
    rw [ok_uV x dBi.1 h.2, ok_vK H v8, o3, ok_uV x dBi.1 h.2, ok_vV H v8, o2]
    refine ok_mono (set_ok x dAi.1 h.1 (H.var_v v8).1) ?_
    rintro - t st
    exact .inl st.oi
  · have h := c6 (opI o)
    rw [o3]
    obtain ⟨v8, -⟩ := x.uv dBi.1 h.2.1
    rw [ok_uV x dBi.1 h.2.1, ok_vK H v8, o3, ok_uV x dBi.1 h.2.1, ok_vV H v8, ok_kO x (x.qC h.2.2), ok_vO x (x.qC h.2.2)]
    refine ok_mono (read_ok x (dCl_of o (by unfold dCl; decide)) h.1 (H.var_v v8).1 (x.kv0 (x.qC h.2.2))) ?_
    rintro - t ot
    exact .inl ot
  · have h := c7 (opI o)
    rw [ok_kO x (x.xB h.2.1), ok_vO x (x.xB h.2.1), ok_kO x (x.qC h.2.2), ok_vO x (x.qC h.2.2)]
    refine ok_mono (read_ok x (dCl_of o (by unfold dCl; decide)) h.1 (x.kv0 (x.xB h.2.1)) (x.kv0 (x.qC h.2.2))) ?_
    rintro - t ot
    exact .inl ot
  · have h := c5 (.inr (opI o))
    rw [o3]
    obtain ⟨v8, -⟩ := x.uv dBi.1 h.2
    rw [ok_uV x dBi.1 h.2, ok_kO x (x.xA h.1), ok_vO x (x.xA h.1)]
    refine ok_mono (setVar_ok x v8 (x.kv0 (x.xA h.1))) ?_
    rintro - t ot
    exact .inl ot
  · have o12 : dO w = 12 := by
      rcases ho with z | z | z | z | z | z | z | z | z
      · exact absurd z n0
      · exact absurd z n1
      · exact absurd z n3
      · exact absurd z n4
      · exact absurd z n5
      · exact absurd z n6
      · exact absurd z n7
      · exact absurd z n9
      · exact z
    have h := c12 (opI o12)
    have ea : (dA w + 1).toInt = (dA w).toInt + 1 := by rw [ktI_add] <;> omega
    rw [ok_kO x (x.xB h.2.1), ok_vO x (x.xB h.2.1), o2]
    have kv := x.kv0 (x.xB h.2.1)
    generalize kO s (gI s 16522 0) = kb at kv ⊢
    generalize vO s (gI s 16522 0) = vb at kv ⊢
    refine ok_mono (set_ok x (by omega) (by omega) kv) ?_
    rintro - t st
    have xt := st.1
    have ht := xt.wn.2.2.2.2.2.2.2.2.2.2.1 (opI o12)
    rw [ok_kO xt (xt.qC ht.2.2), ok_vO xt (xt.qC ht.2.2)]
    refine ok_mono (read_ok xt (dCl_of o12 (by unfold dCl; decide)) (by omega) (by rw [st.lv]; exact kv) (xt.kv0 (xt.qC ht.2.2))) ?_
    rintro - u ou
    exact .inl (st.oi.trans (st.2.1 _ _) ou)
