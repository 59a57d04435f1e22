/-! The class: lists are set. -/
theorem kO_km {s t : S1} {n : Nat × Nat} {i w x : Int32} (h : Ix s n i w) (hx : xOk s x) (km : cKm s t) : kO t x = kO s x ∧ vO t x = vO s x := by
  obtain ⟨a1, a2, a3, a4⟩ := h.2.2.2.2.2.1
  have g : ∀ f j, 128 ≤ f / 128 ∧ f / 128 ≤ 144 → gI t f j = gI s f j := fun f j q => km.1 _ _ (.inl q)
  unfold kO vO
  rw [g 16518 0 (by decide), g 18438 _ (by decide), g 16516 0 (by decide), g 16519 0 (by decide)]
  by_cases c : 256 ≤ x
  · rw [if_pos c, if_pos c, if_pos c, if_pos c]
    exact ⟨km.2.2.1 105 _ _ (.inr (.inr (.inl rfl))), km.2.2.2 106 _ _ (.inl rfl)⟩
  · rw [if_neg c, if_neg c, if_neg c, if_neg c, a1]
    exact ⟨km.2.2.1 149 _ _ (.inr (.inr (.inr (.inr (.inr (.inr ⟨rfl, rfl⟩)))))), km.2.2.2 150 _ _ (.inr (.inr ⟨rfl, rfl⟩))⟩
theorem xOk.km {s t : S1} {n m : Nat × Nat} {i w x : Int32} (h : Ix s n i w) (k : mkW s false m t) (hx : xOk s x) : xOk t x := by
  have km := k.2.2
  obtain ⟨j, j0, j1, j2, j3, e⟩ := tF_of h.w h.2.2.2.1
  have ofc : ofC s (tF s) := ⟨j, j0, j2, e⟩
  have et : tF t = tF s := by
    unfold tF
    rw [km.cur, show oD t (mCur s) = oD s (mCur s) from km.1 _ _ (.inr (.inr (.inl ⟨by decide, by decide, rfl⟩)))]
  unfold xOk dQ pNr pNc
  rw [et, show fPr t (tF s) = fPr s (tF s) from km.1 _ _ (.inr (.inl ⟨by decide, ofc⟩)), km.1 18434 _ (.inl (by decide)), km.1 18437 _ (.inl (by decide))]
  exact hx
/-- one entry of a list -/
theorem listW_ok {s t : S1} {n : Nat × Nat} {i w k : Int32} {ky v : Int64} (x : Ix s n i w) (hA : xOk s (dA w)) (k5 : kO s (dA w) = 5) (mk : mkW s false n t) (hv : ∀ s0, cHI s0 → cRt s0 → cKm t s0 → cV (cLv false s0) k v) : ok (M_Ta_write (vO s (dA w)).toInt32 3 ky k v) t (fun _ u => mkW s false n u) := by
  have xt := x.mk mk
  have hAt := hA.km x mk
  have ek := kO_km x hA mk.2.2
  refine ok_mono (write_ok xt.w.hr xt.w.ro (fun s0 mh h0 => ?_)) ?_
  · obtain ⟨⟨H0, R0, -⟩, F0, km⟩ := cMh.w xt.w xt.fr mh h0
    have kv := xt.kv hAt H0 R0 km
    rw [ek.1, ek.2, k5] at kv
    exact ⟨kv.at5, cV.lit (by decide), hv s0 H0 R0 km⟩
  · rintro r u wq
    exact mk.trans (wrQ.w xt.w xt.fr wq).1
theorem setList_ok {s : S1} {n : Nat × Nat} {i w : Int32} (x : Ix s n i w) (o : (dO w).toInt = 43) (hu : dB w = 0 → 0 ≤ (gI s 16390 0).toInt ∧ (gI s 16390 0).toInt ≤ pNr s (fPr s (tF s))) : ok M_St_setList s (fun _ t => Oi s n i w t) := by
  obtain ⟨o1, o2, o3, o4, o5⟩ := x.o
  have dAi := dA_in w
  have dBi := dB_in w
  have dCi := dC_in w
  have nr := x.nr
  have e0 : (0 : Int32).toInt = 0 := rfl
  have e1 : (1 : Int32).toInt = 1 := rfl
  have e5 : (512 : Int32).toInt = 512 := rfl
  have h := x.wn.2.2.2.2.2.2.2.2.2.2.2.2.2.2.2.2.2.2.2.2.2.2.2.2.1 o
  have hA := x.xr dAi.1 h.1
  have a1 : (dA w + 1).toInt = (dA w).toInt + 1 := by rw [ktI_add] <;> omega
  have hn := x.w.opn.n
  have j210 : ∀ l t, mkW s false n t → ok (M_St_setList_j210 l) t (fun _ u => Oi s n i w u) := fun l t mk => by
    have ot := mk.oi x
    simp only [M_St_setList_j210, ok_B, ok_C, ok_R, ok_L, ok_K, ok_GI, ok_GL, ok_PI, ok_PL, ok_AI, ok_AL, ok_SI, ok_SL, ok_CI, cmp_lt, cmp_le, cmp_gt, cmp_ge, cmp_eq, nar0, nar1, Sum.elim_inl, Sum.elim_inr, ok_PzT, ok_PzC, ok_PzP, ok_PrC, ok_PrP, ok_PrF, ok_PrN, ok_Ln, ok_CL, ok_Nw, ok_S, ok_Ks, ok_Nz]
    refine ok_mono (rClear_ok 138 t) ?_
    rintro - u ⟨ku, zu⟩
    have ou := cRx.oi (.inr (.inr (.inl rfl))) ku ot.1 (fun _ => cRow.nil zu)
    have tu : gI u 16396 0 = gI t 16396 0 := ku.1 _ _ (by decide)
    have osu := ot.trans mk.tu ou
    refine ⟨fun _ => osu, fun _ => ?_⟩
    refine ok_mono (failI_ok l ou.1) ?_
    rintro - v ov
    exact osu.trans (tu.trans mk.tu) ov
  have j68 : ∀ (rg fu er : Int32), (er = 0 → kO s (dA w) = 5) → (∀ k : Int32, 0 ≤ k.toInt → k.toInt < rg.toInt → (dA w).toInt + 1 + k.toInt < pNr s (fPr s (tF s))) → (0 ≤ fu.toInt ∧ fu.toInt ≤ (rwS s 138).toInt) → rg.toInt ≤ 600 → ok (M_St_setList_j68 rg fu er) s (fun _ t => Oi s n i w t) := fun rg fu er he hg hf hg6 => by
    simp only [M_St_setList_j68, M_St_setList_j144, ok_B, ok_C, ok_R, ok_L, ok_K, ok_GI, ok_GL, ok_PI, ok_PL, ok_AI, ok_AL, ok_SI, ok_SL, ok_CI, cmp_lt, cmp_le, cmp_gt, cmp_ge, cmp_eq, nar0, nar1, Sum.elim_inl, Sum.elim_inr, ok_PzT, ok_PzC, ok_PzP, ok_PrC, ok_PrP, ok_PrF, ok_PrN, ok_Ln, ok_CL, ok_Nw, ok_S, ok_Ks, ok_Nz]
    rw [o2, ok_vO x hA]
    refine ok_mono (P := fun (y : Int32 × Int32 × Int32 × Int32) t => (y.1 = rg ∧ y.2.1 = fu ∧ y.2.2.2 = (vO s (dA w)).toInt32) ∧ (y.2.2.1 = 0 → er = 0) ∧ mkW s false n t) (ok_W (fun y t => (y.1 = rg ∧ y.2.1 = fu ∧ y.2.2.2.1 = (vO s (dA w)).toInt32) ∧ (y.2.2.1 = 0 → er = 0) ∧ (0 ≤ y.2.2.2.2.toInt ∧ y.2.2.2.2.toInt ≤ 1000) ∧ mkW s false n t) (fun y _ => (rg.toInt - y.2.2.2.2.toInt).toNat) ?_ (rg, fu, er, (vO s (dA w)).toInt32, 0) s ⟨⟨rfl, rfl, rfl⟩, fun z => z, ⟨Int.le_refl _, by dsimp only; omega⟩, ⟨x.w, x.fr, cKm.refl s⟩⟩) ?_
    · rintro ⟨rg', fu', er', tb, k⟩ t ⟨⟨q1, q2, q3⟩, q4, ⟨k0, k1⟩, mk⟩
      dsimp only at q1 q2 q3 q4 k0 k1
      subst q1 q2 q3
      simp only [M_St_setList_L83, ok_B, ok_C, ok_R, ok_L, ok_K, ok_GI, ok_GL, ok_PI, ok_PL, ok_AI, ok_AL, ok_SI, ok_SL, ok_CI, cmp_lt, cmp_le, cmp_gt, cmp_ge, cmp_eq, nar0, nar1, Sum.elim_inl, Sum.elim_inr, ok_PzT, ok_PzC, ok_PzP, ok_PrC, ok_PrP, ok_PrF, ok_PrN, ok_Ln, ok_CL, ok_Nw, ok_S, ok_Ks, ok_Nz]
      refine ⟨fun _ => ⟨⟨by trivial, by trivial, by trivial⟩, q4, mk⟩, fun c => ⟨fun z => ?_, fun _ => ⟨⟨by trivial, by trivial, by trivial⟩, q4, mk⟩⟩⟩
      rw [i32_le] at c
      have xt := x.mk mk
      have ea : (dA w + 1 + k).toInt = (dA w).toInt + 1 + k.toInt := by rw [ktI_add, a1] <;> omega
      have hgk := hg k k0 (by omega)
      have hk : xOk s (dA w + 1 + k) := x.xr (by omega) (by omega)
      have hkt := hk.km x mk
      rw [xt.o.2.1, ok_kO xt hkt, xt.o.2.1, ok_vO xt hkt]
      refine ok_mono (listW_ok x hA (he (q4 z)) mk (fun s0 H0 R0 km => xt.kv hkt H0 R0 km)) ?_
      rintro r u mu
      have ek : (k + 1).toInt = k.toInt + 1 := by rw [ktI_add] <;> omega
      exact ⟨⟨⟨trivial, trivial, trivial⟩, fun _ => q4 z, ⟨by omega, by omega⟩, mu⟩, by omega⟩
    · rintro ⟨rg', fu', er', tb⟩ t ⟨⟨q1, q2, q3⟩, q4, mk⟩
      dsimp only at q1 q2 q3 q4 ⊢
      subst q1 q2 q3
      refine ok_mono (P := fun (_ : Int32) u => mkW s false n u) (ok_W (fun y u => (y.1 = rg' ∧ y.2.1 = fu' ∧ y.2.2.2.1 = (vO s (dA w)).toInt32) ∧ (y.2.2.1 = 0 → er = 0) ∧ (0 ≤ y.2.2.2.2.toInt ∧ y.2.2.2.2.toInt ≤ 1000) ∧ mkW s false n u) (fun y _ => (fu'.toInt - y.2.2.2.2.toInt).toNat) ?_ (rg', fu', er', (vO s (dA w)).toInt32, 0) t ⟨⟨rfl, rfl, rfl⟩, q4, ⟨Int.le_refl _, by dsimp only; omega⟩, mk⟩) ?_
      · rintro ⟨rg2, fu2, er2, tb2, k⟩ u ⟨⟨p1, p2, p3⟩, p4, ⟨k0, k1⟩, mu⟩
        dsimp only at p1 p2 p3 p4 k0 k1
        subst p1 p2 p3
        simp only [M_St_setList_L147, ok_B, ok_C, ok_R, ok_L, ok_K, ok_GI, ok_GL, ok_PI, ok_PL, ok_AI, ok_AL, ok_SI, ok_SL, ok_CI, cmp_lt, cmp_le, cmp_gt, cmp_ge, cmp_eq, nar0, nar1, Sum.elim_inl, Sum.elim_inr, ok_PzT, ok_PzC, ok_PzP, ok_PrC, ok_PrP, ok_PrF, ok_PrN, ok_Ln, ok_CL, ok_Nw, ok_S, ok_Ks, ok_Nz]
        refine ⟨fun _ => mu, fun c => ⟨fun z => ?_, fun _ => mu⟩⟩
        rw [i32_le] at c
        have hi : 0 ≤ k ∧ k < 512 := by
          rw [i32_le, i32_lt]
          omega
        have xu := x.mk mu
        refine ⟨hi, hi, ?_⟩
        refine ok_mono (listW_ok x hA (he (p4 z)) mu (fun s0 H0 R0 km => ?_)) ?_
        · have row : cRow (cLv false s0) s0 138 := R0.2.2.2.1
          have e1 : gA s0 139 0 k = gA u 139 0 k := km.2.2.1 _ _ _ (.inr (.inr (.inr (.inr (.inr (.inl (by decide)))))))
          have e2 : gB s0 140 0 k = gB u 140 0 k := km.2.2.2 _ _ _ (.inr (.inl (by decide)))
          rw [← e1, ← e2]
          refine row.2 k hi.1 ?_
          show k < gI s0 17666 0
          rw [km.1 17666 0 (.inl (by decide)), mu.2.2.1 17666 0 (.inl (by decide)), i32_lt]
          show k.toInt < (rwS s 138).toInt
          omega
        · rintro r v mv
          have ek : (k + 1).toInt = k.toInt + 1 := by rw [ktI_add] <;> omega
          exact ⟨⟨⟨trivial, trivial, trivial⟩, fun _ => p4 z, ⟨by omega, by omega⟩, mv⟩, by omega⟩
      · rintro l u mu
        exact j210 l u mu
  have j50 : ∀ (rg fu : Int32), (∀ k : Int32, 0 ≤ k.toInt → k.toInt < rg.toInt → (dA w).toInt + 1 + k.toInt < pNr s (fPr s (tF s))) → (0 ≤ fu.toInt ∧ fu.toInt ≤ (rwS s 138).toInt) → rg.toInt ≤ 600 → ok (M_St_setList_j50 rg fu) s (fun _ t => Oi s n i w t) := fun rg fu h1 h2 h3 => by
    simp only [M_St_setList_j50, ok_B, ok_C, ok_R, ok_L, ok_K, ok_GI, ok_GL, ok_PI, ok_PL, ok_AI, ok_AL, ok_SI, ok_SL, ok_CI, cmp_lt, cmp_le, cmp_gt, cmp_ge, cmp_eq, nar0, nar1, Sum.elim_inl, Sum.elim_inr, ok_PzT, ok_PzC, ok_PzP, ok_PrC, ok_PrP, ok_PrF, ok_PrN, ok_Ln, ok_CL, ok_Nw, ok_S, ok_Ks, ok_Nz]
    rw [o2, ok_kO x hA]
    exact ⟨fun c => j68 rg fu 0 (fun _ => c) h1 h2 h3, fun c => j68 rg fu 2 (fun z => absurd z (by decide)) h1 h2 h3⟩
  simp only [M_St_setList, M_St_setList_j28, ok_B, ok_C, ok_R, ok_L, ok_K, ok_GI, ok_GL, ok_PI, ok_PL, ok_AI, ok_AL, ok_SI, ok_SL, ok_CI, cmp_lt, cmp_le, cmp_gt, cmp_ge, cmp_eq, nar0, nar1, Sum.elim_inl, Sum.elim_inr, ok_PzT, ok_PzC, ok_PzP, ok_PrC, ok_PrP, ok_PrF, ok_PrN, ok_Ln, ok_CL, ok_Nw, ok_S, ok_Ks, ok_Nz]
  rw [o3]
  refine ⟨fun b0 => ⟨fun _ => ?_, fun z => absurd b0 z⟩, fun b0 => ⟨fun z => absurd z b0, fun _ => ?_⟩⟩
  · obtain ⟨u0, u1⟩ := hu b0
    rw [o2]
    have s1 : (gI s 16390 0 - dA w).toInt = (gI s 16390 0).toInt - (dA w).toInt := by rw [ktI_sub] <;> omega
    have s2 : (gI s 16390 0 - dA w - 1).toInt = (gI s 16390 0).toInt - (dA w).toInt - 1 := by rw [ktI_sub, s1] <;> omega
    exact j50 _ _ (fun k k0 k1 => by omega) ⟨hn.1, Int.le_refl _⟩ (by omega)
  · exact j50 _ _ (fun k k0 k1 => by omega) ⟨Int.le_refl _, by rw [e0]; exact hn.1⟩ (by omega)
