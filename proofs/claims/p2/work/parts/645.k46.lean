/-! The class: reckoning and comparing. -/
def sS {α : Type} (s : S1) (_ : α) (s' : S1) : Prop := s' = s
theorem kfloorMod (s : S1) (a b : Int64) (hb : b ≠ 0) : ok (M_Mth_floorMod a b) s (sS s) := by
  simp only [M_Mth_floorMod, ok_B, ok_C, ok_R, ok_L, ok_K, ok_GI, ok_GL, ok_PI, ok_PL, ok_AI, ok_AL, ok_SI, ok_SL, ok_CI, cmp_lt, cmp_le, cmp_gt, cmp_ge, cmp_eq, nar0, nar1, Sum.elim_inl, Sum.elim_inr, ok_PzT, ok_PzC, ok_PzP, ok_PrC, ok_PrP, ok_PrF, ok_PrN, ok_Ln, ok_CL, ok_Nw, ok_S, ok_Ks, ok_Nz]
  exact ⟨hb, fun _ => rfl, fun _ => ⟨fun _ => rfl, fun _ => rfl⟩⟩
theorem kfloorDiv (s : S1) (a b : Int64) (hb : b ≠ 0) : ok (M_Mth_floorDiv a b) s (sS s) := by
  simp only [M_Mth_floorDiv, ok_B, ok_C, ok_R, ok_L, ok_K, ok_GI, ok_GL, ok_PI, ok_PL, ok_AI, ok_AL, ok_SI, ok_SL, ok_CI, cmp_lt, cmp_le, cmp_gt, cmp_ge, cmp_eq, nar0, nar1, Sum.elim_inl, Sum.elim_inr, ok_PzT, ok_PzC, ok_PzP, ok_PrC, ok_PrP, ok_PrF, ok_PrN, ok_Ln, ok_CL, ok_Nw, ok_S, ok_Ks, ok_Nz]
  exact ⟨hb, fun _ => rfl, fun _ => ⟨fun _ => rfl, fun _ => rfl⟩⟩
theorem shifted_ok (s : S1) (a b : Int64) : ok (M_St_shifted a b) s (sS s) := by
  simp only [M_St_shifted, ok_B, ok_C, ok_R, ok_L, ok_K, ok_GI, ok_GL, ok_PI, ok_PL, ok_AI, ok_AL, ok_SI, ok_SL, ok_CI, cmp_lt, cmp_le, cmp_gt, cmp_ge, cmp_eq, nar0, nar1, Sum.elim_inl, Sum.elim_inr, ok_PzT, ok_PzC, ok_PzP, ok_PrC, ok_PrP, ok_PrF, ok_PrN, ok_Ln, ok_CL, ok_Nw, ok_S, ok_Ks, ok_Nz]
  exact ⟨fun _ => rfl, fun _ => ⟨fun _ => ⟨fun _ => rfl, fun _ => rfl⟩, fun _ => rfl⟩⟩
theorem reckoned_ok (s : S1) (a b : Int64) : ok (M_St_reckoned a b) s (sS s) := by
  simp only [M_St_reckoned, ok_B, ok_C, ok_R, ok_L, ok_K, ok_GI, ok_GL, ok_PI, ok_PL, ok_AI, ok_AL, ok_SI, ok_SL, ok_CI, cmp_lt, cmp_le, cmp_gt, cmp_ge, cmp_eq, nar0, nar1, Sum.elim_inl, Sum.elim_inr, ok_PzT, ok_PzC, ok_PzP, ok_PrC, ok_PrP, ok_PrF, ok_PrN, ok_Ln, ok_CL, ok_Nw, ok_S, ok_Ks, ok_Nz]
  refine ⟨fun _ => rfl, fun _ => ⟨fun _ => rfl, fun _ => ⟨fun _ => rfl, fun _ => ⟨fun _ => ⟨fun _ => rfl, fun c => ?_⟩, fun _ => ⟨fun _ => ⟨fun _ => rfl, fun c => ?_⟩, fun _ => ⟨fun _ => rfl, fun _ => ⟨fun _ => rfl, fun _ => ⟨fun _ => rfl, fun _ => ⟨fun _ => ?_, fun _ => ?_⟩⟩⟩⟩⟩⟩⟩⟩⟩
  · exact ok_mono (kfloorMod s a b c) (fun _ _ q => q)
  · exact ok_mono (kfloorDiv s a b c) (fun _ _ q => q)
  · exact ok_mono (shifted_ok s a b) (fun _ _ q => q)
  · exact ok_mono (shifted_ok s a (-b)) (fun _ _ q => q)
theorem eiQ.oi {s t : S1} {n : Nat × Nat} {i w r : Int32} (h : eiQ s r t) (x : Ix s n i w) (hc : dCl (dO w).toInt) (hr : r ≠ 0) : Oi s n i w t := by
  rcases h with h | h
  · exact absurd h.1 hr
  · exact h.2.1.oi x hc
theorem reckon_ok {s : S1} {n : Nat × Nat} {i w : Int32} (x : Ix s n i w) (ho : 13 ≤ (dO w).toInt ∧ (dO w).toInt ≤ 16 ∨ 19 ≤ (dO w).toInt ∧ (dO w).toInt ≤ 24) : ok M_St_reckon s (fun _ t => Oi s n i w t) := by
  have H := x.w.hi
  obtain ⟨hA, hB, hC⟩ := x.wn.2.2.2.2.2.2.2.2.2.2.2.1 ho
  obtain ⟨o1, o2, o3, o4, o5⟩ := x.o
  have e16 : (16 : Int32).toInt = 16 := rfl
  have e12 : (12 : Int32).toInt = 12 := rfl
  have e10 : (10 : Int32).toInt = 10 := rfl
  have j50 : ∀ k : Int32, 0 ≤ k.toInt ∧ k.toInt < 33 → ok (M_St_reckon_j50 k) s (fun _ t => Oi s n i w t) := fun k hk => by
    simp only [M_St_reckon_j50, ok_B, ok_C, ok_R, ok_L, ok_K, ok_GI, ok_GL, ok_PI, ok_PL, ok_AI, ok_AL, ok_SI, ok_SL, ok_CI, cmp_lt, cmp_le, cmp_gt, cmp_ge, cmp_eq, nar0, nar1, Sum.elim_inl, Sum.elim_inr, ok_PzT, ok_PzC, ok_PzP, ok_PrC, ok_PrP, ok_PrF, ok_PrN, ok_Ln, ok_CL, ok_Nw, ok_S, ok_Ks, ok_Nz]
    rw [ok_kO x (x.qB hB), ok_vO x (x.qB hB), ok_kO x (x.qC hC), ok_vO x (x.qC hC)]
    refine ok_mono (either_ok H hk (x.kv0 (x.qB hB)) (x.kv0 (x.qC hC))) ?_
    rintro r t e
    refine ⟨fun r0 => ?_, fun r0 => e.oi x (by unfold dCl; omega) r0⟩
    rcases e with e | e
    · rw [e.2]
      exact failI_ok 3 x
    · rw [e.1] at r0
      exact absurd r0 (by decide)
  have j24 : ok M_St_reckon_j24 s (fun _ t => Oi s n i w t) := by
    simp only [M_St_reckon_j24, ok_B, ok_C, ok_R, ok_L, ok_K, ok_GI, ok_GL, ok_PI, ok_PL, ok_AI, ok_AL, ok_SI, ok_SL, ok_CI, cmp_lt, cmp_le, cmp_gt, cmp_ge, cmp_eq, nar0, nar1, Sum.elim_inl, Sum.elim_inr, ok_PzT, ok_PzC, ok_PzP, ok_PrC, ok_PrP, ok_PrF, ok_PrN, ok_Ln, ok_CL, ok_Nw, ok_S, ok_Ks, ok_Nz]
    rw [o1]
    refine ⟨fun c => ?_, fun c => ?_⟩
    · rw [i32_lt] at c
      have e : (dO w - 12).toInt = (dO w).toInt - 12 := by rw [ktI_sub] <;> omega
      exact j50 _ (by omega)
    · rw [i32_lt] at c
      have e : (dO w - 10).toInt = (dO w).toInt - 10 := by rw [ktI_sub] <;> omega
      exact j50 _ (by omega)
  have j142 : ok M_St_reckon_j142 s (fun _ t => Oi s n i w t) := by
    simp only [M_St_reckon_j142, ok_B, ok_C, ok_R, ok_L, ok_K, ok_GI, ok_GL, ok_PI, ok_PL, ok_AI, ok_AL, ok_SI, ok_SL, ok_CI, cmp_lt, cmp_le, cmp_gt, cmp_ge, cmp_eq, nar0, nar1, Sum.elim_inl, Sum.elim_inr, ok_PzT, ok_PzC, ok_PzP, ok_PrC, ok_PrP, ok_PrF, ok_PrN, ok_Ln, ok_CL, ok_Nw, ok_S, ok_Ks, ok_Nz]
    exact failI_ok 5 x
  have j153 : ∀ a b, ok (M_St_reckon_j153 a b) s (fun _ t => Oi s n i w t) := fun a b => by
    simp only [M_St_reckon_j153, ok_B, ok_C, ok_R, ok_L, ok_K, ok_GI, ok_GL, ok_PI, ok_PL, ok_AI, ok_AL, ok_SI, ok_SL, ok_CI, cmp_lt, cmp_le, cmp_gt, cmp_ge, cmp_eq, nar0, nar1, Sum.elim_inl, Sum.elim_inr, ok_PzT, ok_PzC, ok_PzP, ok_PrC, ok_PrP, ok_PrF, ok_PrN, ok_Ln, ok_CL, ok_Nw, ok_S, ok_Ks, ok_Nz]
    refine ok_mono (reckoned_ok s a b) ?_
    intro v t e
    unfold sS at e
    subst e
    rw [o2]
    refine ok_mono (set_ok x (dA_in w).1 hA (cV.lit (by decide))) ?_
    rintro - u st
    exact st.oi
  simp only [M_St_reckon, ok_B, ok_C, ok_R, ok_L, ok_K, ok_GI, ok_GL, ok_PI, ok_PL, ok_AI, ok_AL, ok_SI, ok_SL, ok_CI, cmp_lt, cmp_le, cmp_gt, cmp_ge, cmp_eq, nar0, nar1, Sum.elim_inl, Sum.elim_inr, ok_PzT, ok_PzC, ok_PzP, ok_PrC, ok_PrP, ok_PrF, ok_PrN, ok_Ln, ok_CL, ok_Nw, ok_S, ok_Ks, ok_Nz]
  rw [ok_kO x (x.qB hB)]
  refine ⟨fun _ => ?_, fun _ => j24⟩
  rw [ok_kO x (x.qC hC)]
  refine ⟨fun _ => ?_, fun _ => j24⟩
  rw [ok_vO x (x.qB hB), ok_vO x (x.qC hC)]
  exact ⟨fun _ => ⟨fun _ => j142, fun _ => ⟨fun _ => j142, fun _ => j153 _ _⟩⟩, fun _ => j153 _ _⟩
theorem ok_iT {s : S1} {n : Nat × Nat} {i w x : Int32} (h : Ix s n i w) (hx : xOk s x) (Q : Int32 → S1 → Prop) : ok (M_St_isTrue x) s Q ↔ Q (if kO s x ≤ 1 then 0 else 1) s := by
  simp only [M_St_isTrue, ok_B, ok_C, ok_R, ok_L, ok_K, ok_GI, ok_GL, ok_PI, ok_PL, ok_AI, ok_AL, ok_SI, ok_SL, ok_CI, cmp_lt, cmp_le, cmp_gt, cmp_ge, cmp_eq, nar0, nar1, Sum.elim_inl, Sum.elim_inr, ok_PzT, ok_PzC, ok_PzP, ok_PrC, ok_PrP, ok_PrF, ok_PrN, ok_Ln, ok_CL, ok_Nw, ok_S, ok_Ks, ok_Nz]
  rw [ok_kO h hx]
  by_cases c : kO s x ≤ 1
  · rw [if_pos c]
    exact ⟨fun z => z.1 c, fun z => ⟨fun _ => z, fun d => absurd c d⟩⟩
  · rw [if_neg c]
    exact ⟨fun z => z.2 c, fun z => ⟨fun d => absurd d c, fun _ => z⟩⟩
theorem cW.len {s : S1} {n : Nat × Nat} {y : Int32} (W : cW s n) (hy : cLv false s y 4) : pT s y ∧ gI s 18815 y = 1 ∧ lnS s 146 y ≤ 400000 ∧ (Int32.ofNat (lnS s 146 y)).toInt = lnS s 146 y := by
  have p := W.hi.1.2 _ hy.1.1 hy.1.2
  have f := (W.hi.2.1 _ hy.1.1 hy.1.2).2.1.1 hy.2.1
  obtain ⟨-, a, b, c, hw, -⟩ := W.ro
  have l := (hw.bl p f).1
  exact ⟨p, f, l, len_toInt l⟩
theorem measure_ok {s : S1} {n : Nat × Nat} {i w : Int32} (x : Ix s n i w) (ho : (dO w).toInt = 28) : ok M_St_measure s (fun _ t => Oi s n i w t) := by
  have H := x.w.hi
  obtain ⟨hA, hB⟩ := x.wn.1 (.inr (.inr (.inr (.inr ho))))
  obtain ⟨o1, o2, o3, o4, o5⟩ := x.o
  have kv := x.kv0 (x.xB hB)
  simp only [M_St_measure, ok_B, ok_C, ok_R, ok_L, ok_K, ok_GI, ok_GL, ok_PI, ok_PL, ok_AI, ok_AL, ok_SI, ok_SL, ok_CI, cmp_lt, cmp_le, cmp_gt, cmp_ge, cmp_eq, nar0, nar1, Sum.elim_inl, Sum.elim_inr, ok_PzT, ok_PzC, ok_PzP, ok_PrC, ok_PrP, ok_PrF, ok_PrN, ok_Ln, ok_CL, ok_Nw, ok_S, ok_Ks, ok_Nz]
  rw [ok_kO x (x.xB hB), ok_vO x (x.xB hB)]
  generalize kO s (gI s 16522 0) = kb at kv ⊢
  generalize vO s (gI s 16522 0) = vb at kv ⊢
  refine ok_mono (findEvent_ok H kb vb 16 (fun z => by rw [z] at kv; exact kv.at5) (by decide)) ?_
  rintro p u ⟨es, hp⟩
  subst es
  refine ⟨fun k4 => ?_, fun _ => ⟨fun k5 => ⟨fun p0 => ?_, fun _ => ?_⟩, fun _ => failI_ok 2 x⟩⟩
  · rw [k4] at kv
    obtain ⟨l1, l2, -⟩ := x.w.len kv.at4
    refine ⟨l1, l2, ?_⟩
    rw [o2]
    refine ok_mono (set_ok x (dA_in w).1 hA (cV.lit (by decide))) ?_
    rintro - t st
    exact st.oi
  · have it : inT u p := by
      rcases hp with rfl | z
      · exact absurd p0 (by decide)
      · exact z.2.1
    refine ok_mono (callEntry_ok H it kv (cV.lit (by decide))) ?_
    rintro - t ⟨ce, n2⟩
    refine ceQ.oi (s := u) ?_ x (by unfold dCl; omega)
    obtain ⟨f1, f2, f3, f4, f5, f6, f7, f8⟩ := ce
    refine ⟨fun f j q => ?_, f2, f3, f4, ?_, ?_, ⟨?_, fun j j0 j1 => ?_⟩, ?_⟩
    · rw [gI_sI, if_neg (fun z => q.2.2 z.1)]
      exact f1 f j q
    · rw [gI_sI, if_neg (fun z => absurd z.1 (by decide))]
      exact f5
    · rw [gI_sI, if_neg (fun z => absurd z.1 (by decide))]
      exact f6
    · rw [gI_sI, if_pos ⟨rfl, rfl⟩]
      decide
    · rw [gI_sI, if_pos ⟨rfl, rfl⟩] at j1
      refine f7.2 j j0 ?_
      show j < rwS t 132
      rw [i32_lt] at j1 ⊢
      have e1 : (1 : Int32).toInt = 1 := rfl
      omega
    · show (gI (sI t 16898 0 1) 16898 0).toInt ≤ 3
      rw [gI_sI, if_pos ⟨rfl, rfl⟩]
      decide
  · rw [k5] at kv
    refine ok_mono (border_ok H kv.at5) ?_
    rintro b t hb
    have hk : cHx u t := ⟨fun f j q => hb.1 f j q.2.2.2.2.1, fun f j => by show t.2.1 f j = u.2.1 f j; rw [hb.2], fun a j k _ => by show t.2.2.1 a j k = u.2.2.1 a j k; rw [hb.2], fun a j k _ => by show t.2.2.2 a j k = u.2.2.2 a j k; rw [hb.2], fun j _ => by show t.2.2.1 _ _ _ = u.2.2.1 _ _ _; rw [hb.2]⟩
    have t13 : cTl t 13 = cTl u 13 := by
      show t.2.2.1 _ _ _ = u.2.2.1 _ _ _
      rw [hb.2]
    have mk := x.w.hx x.fr hk (hb.hi H) (hk.ro x.w.ro (by rw [t13]; exact Int.le_refl _) (by rw [t13]; exact x.w.ro.1.2.1.2))
    have xt := x.mk mk
    have et : tF t = tF u := by
      unfold tF
      rw [show mCur t = mCur u from hb.1 _ _ (by decide), show oD t (mCur u) = oD u (mCur u) from hb.1 _ _ (by decide)]
    have oit : Oi u n i w t := by
      refine ⟨xt, ?_, .inl (hb.1 _ _ (by decide))⟩
      rw [et]
      exact ⟨hb.1 _ _ (by decide), hb.1 _ _ (by decide), hb.1 _ _ (by decide)⟩
    have hA' := (xt.wn.1 (.inr (.inr (.inr (.inr ho))))).1
    rw [o2]
    refine ok_mono (set_ok xt (dA_in w).1 hA' (cV.lit (by decide))) ?_
    rintro - t2 st
    exact oit.trans (hb.1 _ _ (by decide)) st.oi
theorem pc_same {s : S1} {f q : Int32} (h : gI s 19461 f = q) : sI s 19461 f q = s := by
  refine Prod.ext ?_ rfl
  funext g j
  show (if g = 19461 ∧ j = f then q else s.1 g j) = s.1 g j
  by_cases z : g = 19461 ∧ j = f
  · rw [if_pos z, z.1, z.2]
    exact h.symm
  · rw [if_neg z]
theorem pc_os {s : S1} {n : Nat × Nat} {i w k : Int32} (x : Ix s n i w) (hp : gI s 19461 (tF s) = i + 1) (hk : k = 0 ∨ k = 1) (g : dGs s (fPr s (tF s)) (i + 2)) : Os s n i w (sI s 19461 (tF s) (i + 1 + k)) := by
  rcases hk with rfl | rfl
  · rw [Int32.add_zero, pc_same hp]
    exact .inl (Oi.refl x)
  · have e2 : i + 1 + 1 = i + 2 := by rw [Int32.add_assoc]; rfl
    rw [e2]
    exact skip_os x g
theorem decide_ok {s : S1} {n : Nat × Nat} {i w : Int32} (l : Int32) (x : Ix s n i w) (hp : gI s 19461 (tF s) = i + 1) (g : dGs s (fPr s (tF s)) (i + 2)) : ok (M_St_decide l) s (fun _ t => Os s n i w t) := by
  obtain ⟨a1, a2, a3, a4⟩ := x.2.2.2.2.2.1
  simp only [M_St_decide, M_St_decide_j22, M_St_decide_j30, ok_B, ok_C, ok_R, ok_L, ok_K, ok_GI, ok_GL, ok_PI, ok_PL, ok_AI, ok_AL, ok_SI, ok_SL, ok_CI, cmp_lt, cmp_le, cmp_gt, cmp_ge, cmp_eq, nar0, nar1, Sum.elim_inl, Sum.elim_inr, ok_PzT, ok_PzC, ok_PzP, ok_PrC, ok_PrP, ok_PrF, ok_PrN, ok_Ln, ok_CL, ok_Nw, ok_S, ok_Ks, ok_Nz]
  rw [a2, hp]
  exact ⟨x.tp.2.2.2.2.1, fun _ => ⟨fun _ => pc_os x hp (.inl rfl) g, fun _ => pc_os x hp (.inr rfl) g⟩, fun _ => ⟨fun _ => pc_os x hp (.inl rfl) g, fun _ => pc_os x hp (.inr rfl) g⟩⟩
theorem equal_ok {s : S1} {n : Nat × Nat} {i w : Int32} (x : Ix s n i w) (hcl : dCl (dO w).toInt) (hp : gI s 19461 (tF s) = i + 1) (g : dGs s (fPr s (tF s)) (i + 2)) (hB : dQ s (fPr s (tF s)) (dB w)) (hC : dQ s (fPr s (tF s)) (dC w)) : ok M_St_equal s (fun _ t => Os s n i w t) := by
  have H := x.w.hi
  have kB := x.kv0 (x.qB hB)
  have kC := x.kv0 (x.qC hC)
  simp only [M_St_equal, ok_B, ok_C, ok_R, ok_L, ok_K, ok_GI, ok_GL, ok_PI, ok_PL, ok_AI, ok_AL, ok_SI, ok_SL, ok_CI, cmp_lt, cmp_le, cmp_gt, cmp_ge, cmp_eq, nar0, nar1, Sum.elim_inl, Sum.elim_inr, ok_PzT, ok_PzC, ok_PzP, ok_PrC, ok_PrP, ok_PrF, ok_PrN, ok_Ln, ok_CL, ok_Nw, ok_S, ok_Ks, ok_Nz]
  rw [ok_kO x (x.qB hB), ok_kO x (x.qC hC), ok_vO x (x.qB hB), ok_vO x (x.qC hC)]
  generalize kO s (gI s 16522 0) = kb at kB ⊢
  generalize vO s (gI s 16522 0) = vb at kB ⊢
  generalize kO s (gI s 16523 0) = kc at kC ⊢
  generalize vO s (gI s 16523 0) = vc at kC ⊢
  have j85 : ∀ l, ok (M_St_equal_j85 l) s (fun _ t => Os s n i w t) := fun l => by
    simp only [M_St_equal_j85, ok_B, ok_C, ok_R, ok_L, ok_K, ok_GI, ok_GL, ok_PI, ok_PL, ok_AI, ok_AL, ok_SI, ok_SL, ok_CI, cmp_lt, cmp_le, cmp_gt, cmp_ge, cmp_eq, nar0, nar1, Sum.elim_inl, Sum.elim_inr, ok_PzT, ok_PzC, ok_PzP, ok_PrC, ok_PrP, ok_PrF, ok_PrN, ok_Ln, ok_CL, ok_Nw, ok_S, ok_Ks, ok_Nz]
    exact decide_ok l x hp g
  have j54 : ∀ l, ok (M_St_equal_j54 kb kc vb vc l) s (fun _ t => Os s n i w t) := fun l => by
    simp only [M_St_equal_j54, ok_B, ok_C, ok_R, ok_L, ok_K, ok_GI, ok_GL, ok_PI, ok_PL, ok_AI, ok_AL, ok_SI, ok_SL, ok_CI, cmp_lt, cmp_le, cmp_gt, cmp_ge, cmp_eq, nar0, nar1, Sum.elim_inl, Sum.elim_inr, ok_PzT, ok_PzC, ok_PzP, ok_PrC, ok_PrP, ok_PrF, ok_PrN, ok_Ln, ok_CL, ok_Nw, ok_S, ok_Ks, ok_Nz]
    refine ⟨fun _ => ⟨fun _ => ⟨fun _ => ?_, fun _ => j85 l⟩, fun _ => j85 l⟩, fun _ => j85 l⟩
    refine ok_mono (either_ok H (by decide) kB kC) ?_
    rintro r t e
    refine ⟨fun r0 => ?_, fun r0 => .inl (e.oi x hcl r0)⟩
    rcases e with e | e
    · rw [e.2]
      exact j85 l
    · rw [e.1] at r0
      exact absurd r0 (by decide)
  have j53 : ok (M_St_equal_j53 kb kc vb vc) s (fun _ t => Os s n i w t) := by
    simp only [M_St_equal_j53]
    exact j54 0
  exact ⟨fun _ => ⟨fun _ => j54 1, fun _ => j53⟩, fun _ => j53⟩
def cpP (s : S1) (a b : Int32) (e : (Int32 × Int32 × Int32) ⊕ (Int32 × Int32)) (s' : S1) : Prop := s' = s ∧ (∀ y, e = .inl y → y.1 = a ∧ y.2.1 = b ∧ 0 ≤ y.2.2.toInt ∧ y.2.2.toInt < lnS s 146 a ∧ y.2.2.toInt < lnS s 146 b) ∧ ∀ y, e = .inr y → y.1 = a ∧ y.2 = b
theorem compared_ok {s : S1} {n : Nat × Nat} {a b : Int32} (W : cW s n) (ha : cLv false s a 4) (hb : cLv false s b 4) : ok (M_St_compared a b) s (sS s) := by
  obtain ⟨-, -, la, ea⟩ := W.len ha
  obtain ⟨-, -, lb, eb⟩ := W.len hb
  have e0 : (0 : Int32).toInt = 0 := rfl
  have e1 : (1 : Int32).toInt = 1 := rfl
  simp only [M_St_compared, ok_B, ok_C, ok_R, ok_L, ok_K, ok_GI, ok_GL, ok_PI, ok_PL, ok_AI, ok_AL, ok_SI, ok_SL, ok_CI, cmp_lt, cmp_le, cmp_gt, cmp_ge, cmp_eq, nar0, nar1, Sum.elim_inl, Sum.elim_inr, ok_PzT, ok_PzC, ok_PzP, ok_PrC, ok_PrP, ok_PrF, ok_PrN, ok_Ln, ok_CL, ok_Nw, ok_S, ok_Ks, ok_Nz]
  refine ok_mono (kmin_ok _ _ s) ?_
  rintro m s2 ⟨es, hm, m1, m2⟩
  subst es
  have m0 : 0 ≤ m.toInt := by
    rcases hm with rfl | rfl <;> omega
  refine ok_mono (P := cpP s2 a b) (ok_W (fun y t => t = s2 ∧ (y.1 = a ∧ y.2.1 = b ∧ y.2.2.1 = m) ∧ 0 ≤ y.2.2.2.toInt ∧ y.2.2.2.toInt ≤ m.toInt) (fun y _ => (m.toInt - y.2.2.2.toInt).toNat) ?_ (a, b, m, 0) s2 ⟨rfl, ⟨rfl, rfl, rfl⟩, Int.le_refl _, by dsimp only; omega⟩) ?_
  · rintro ⟨a', b', m', j⟩ t ⟨et, ⟨e2, e3, e4⟩, j0, j1⟩
    dsimp only at e2 e3 e4 j0 j1
    subst et e2 e3 e4
    simp only [M_St_compared_L10, ok_B, ok_C, ok_R, ok_L, ok_K, ok_GI, ok_GL, ok_PI, ok_PL, ok_AI, ok_AL, ok_SI, ok_SL, ok_CI, cmp_lt, cmp_le, cmp_gt, cmp_ge, cmp_eq, nar0, nar1, Sum.elim_inl, Sum.elim_inr, ok_PzT, ok_PzC, ok_PzP, ok_PrC, ok_PrP, ok_PrF, ok_PrN, ok_Ln, ok_CL, ok_Nw, ok_S, ok_Ks, ok_Nz]
    refine ⟨fun _ => ⟨rfl, fun y z => by simp at z, fun y z => ?_⟩, fun c => ?_⟩
    · simp only [Sum.inr.injEq] at z
      subst z
      exact ⟨rfl, rfl⟩
    · rw [i32_le] at c
      have ej : (j + 1).toInt = j.toInt + 1 := by rw [ktI_add] <;> omega
      refine ⟨⟨by rw [i32_le]; omega, by rw [i32_lt]; omega⟩, ⟨by rw [i32_le]; omega, by rw [i32_lt]; omega⟩, fun _ => ⟨⟨by trivial, ⟨by trivial, by trivial, by trivial⟩, by omega, by omega⟩, by omega⟩, fun _ => ⟨rfl, fun y z => ?_, fun y z => by simp at z⟩⟩
      simp only [Sum.inl.injEq] at z
      subst z
      exact ⟨rfl, rfl, j0, by dsimp only; omega, by dsimp only; omega⟩
  · rintro e t ⟨es, q1, q2⟩
    subst es
    rcases e with y | y
    · obtain ⟨r1, r2, r3, r4, r5⟩ := q1 y rfl
      simp only [Sum.elim_inl, ok_B, ok_C, ok_R, ok_L, ok_K, ok_GI, ok_GL, ok_PI, ok_PL, ok_AI, ok_AL, ok_SI, ok_SL, ok_CI, cmp_lt, cmp_le, cmp_gt, cmp_ge, cmp_eq, nar0, nar1, Sum.elim_inl, Sum.elim_inr, ok_PzT, ok_PzC, ok_PzP, ok_PrC, ok_PrP, ok_PrF, ok_PrN, ok_Ln, ok_CL, ok_Nw, ok_S, ok_Ks, ok_Nz]
      rw [r1, r2]
      exact ⟨⟨by rw [i32_le]; omega, by rw [i32_lt]; omega⟩, ⟨by rw [i32_le]; omega, by rw [i32_lt]; omega⟩, rfl⟩
    · simp only [Sum.elim_inr, ok_B, ok_C, ok_R, ok_L, ok_K, ok_GI, ok_GL, ok_PI, ok_PL, ok_AI, ok_AL, ok_SI, ok_SL, ok_CI, cmp_lt, cmp_le, cmp_gt, cmp_ge, cmp_eq, nar0, nar1, Sum.elim_inl, Sum.elim_inr, ok_PzT, ok_PzC, ok_PzP, ok_PrC, ok_PrP, ok_PrF, ok_PrN, ok_Ln, ok_CL, ok_Nw, ok_S, ok_Ks, ok_Nz]
      rfl
theorem order_ok {s : S1} {n : Nat × Nat} {i w : Int32} (x : Ix s n i w) (hp : gI s 19461 (tF s) = i + 1) (g : dGs s (fPr s (tF s)) (i + 2)) (hB : dQ s (fPr s (tF s)) (dB w)) (hC : dQ s (fPr s (tF s)) (dC w)) (ho : (dO w).toInt = 32 ∨ (dO w).toInt = 33) : ok M_St_order s (fun _ t => Os s n i w t) := by
  have H := x.w.hi
  have kB := x.kv0 (x.qB hB)
  have kC := x.kv0 (x.qC hC)
  obtain ⟨o1, o2, o3, o4, o5⟩ := x.o
  have e18 : (18 : Int32).toInt = 18 := rfl
  have e32 : (32 : Int32).toInt = 32 := rfl
  simp only [M_St_order, ok_B, ok_C, ok_R, ok_L, ok_K, ok_GI, ok_GL, ok_PI, ok_PL, ok_AI, ok_AL, ok_SI, ok_SL, ok_CI, cmp_lt, cmp_le, cmp_gt, cmp_ge, cmp_eq, nar0, nar1, Sum.elim_inl, Sum.elim_inr, ok_PzT, ok_PzC, ok_PzP, ok_PrC, ok_PrP, ok_PrF, ok_PrN, ok_Ln, ok_CL, ok_Nw, ok_S, ok_Ks, ok_Nz]
  rw [ok_kO x (x.qB hB), ok_kO x (x.qC hC), ok_vO x (x.qB hB), ok_vO x (x.qC hC)]
  generalize kO s (gI s 16522 0) = kb at kB ⊢
  generalize vO s (gI s 16522 0) = vb at kB ⊢
  generalize kO s (gI s 16523 0) = kc at kC ⊢
  generalize vO s (gI s 16523 0) = vc at kC ⊢
  have j84 : ∀ l, ok (M_St_order_j84 l) s (fun _ t => Os s n i w t) := fun l => by
    simp only [M_St_order_j84, ok_B, ok_C, ok_R, ok_L, ok_K, ok_GI, ok_GL, ok_PI, ok_PL, ok_AI, ok_AL, ok_SI, ok_SL, ok_CI, cmp_lt, cmp_le, cmp_gt, cmp_ge, cmp_eq, nar0, nar1, Sum.elim_inl, Sum.elim_inr, ok_PzT, ok_PzC, ok_PzP, ok_PrC, ok_PrP, ok_PrF, ok_PrN, ok_Ln, ok_CL, ok_Nw, ok_S, ok_Ks, ok_Nz]
    exact decide_ok l x hp g
  have j165 : ∀ l, ok (M_St_order_j165 l) s (fun _ t => Os s n i w t) := fun l => by
    simp only [M_St_order_j165, ok_B, ok_C, ok_R, ok_L, ok_K, ok_GI, ok_GL, ok_PI, ok_PL, ok_AI, ok_AL, ok_SI, ok_SL, ok_CI, cmp_lt, cmp_le, cmp_gt, cmp_ge, cmp_eq, nar0, nar1, Sum.elim_inl, Sum.elim_inr, ok_PzT, ok_PzC, ok_PzP, ok_PrC, ok_PrP, ok_PrF, ok_PrN, ok_Ln, ok_CL, ok_Nw, ok_S, ok_Ks, ok_Nz]
    exact decide_ok l x hp g
  have j171 : ok (M_St_order_j171 kb kc vb vc) s (fun _ t => Os s n i w t) := by
    simp only [M_St_order_j171, ok_B, ok_C, ok_R, ok_L, ok_K, ok_GI, ok_GL, ok_PI, ok_PL, ok_AI, ok_AL, ok_SI, ok_SL, ok_CI, cmp_lt, cmp_le, cmp_gt, cmp_ge, cmp_eq, nar0, nar1, Sum.elim_inl, Sum.elim_inr, ok_PzT, ok_PzC, ok_PzP, ok_PrC, ok_PrP, ok_PrF, ok_PrN, ok_Ln, ok_CL, ok_Nw, ok_S, ok_Ks, ok_Nz]
    rw [o1]
    have e1 : (18 + dO w).toInt = 18 + (dO w).toInt := by rw [ktI_add] <;> omega
    have e2 : (18 + dO w - 32).toInt = 18 + (dO w).toInt - 32 := by rw [ktI_sub, e1] <;> omega
    refine ok_mono (either_ok H (by omega) kB kC) ?_
    rintro r t e
    refine ⟨fun r0 => ?_, fun r0 => .inl (e.oi x (by unfold dCl; omega) r0)⟩
    rcases e with e | e
    · rw [e.2]
      refine ok_mono (failI_ok 3 x) ?_
      rintro - u ou
      exact .inl ou
    · rw [e.1] at r0
      exact absurd r0 (by decide)
  have j90 : ok (M_St_order_j90 kb kc vb vc) s (fun _ t => Os s n i w t) := by
    simp only [M_St_order_j90, ok_B, ok_C, ok_R, ok_L, ok_K, ok_GI, ok_GL, ok_PI, ok_PL, ok_AI, ok_AL, ok_SI, ok_SL, ok_CI, cmp_lt, cmp_le, cmp_gt, cmp_ge, cmp_eq, nar0, nar1, Sum.elim_inl, Sum.elim_inr, ok_PzT, ok_PzC, ok_PzP, ok_PrC, ok_PrP, ok_PrF, ok_PrN, ok_Ln, ok_CL, ok_Nw, ok_S, ok_Ks, ok_Nz]
    refine ⟨fun k4 => ⟨fun k4' => ?_, fun _ => j171⟩, fun _ => j171⟩
    rw [k4] at kB
    rw [k4'] at kC
    obtain ⟨l1, l2, -⟩ := x.w.len kB.at4
    obtain ⟨m1, m2, -⟩ := x.w.len kC.at4
    refine ⟨l1, l2, m1, m2, ?_⟩
    refine ok_mono (compared_ok x.w kB.at4 kC.at4) ?_
    intro v t e
    unfold sS at e
    subst e
    exact ⟨fun _ => ⟨fun _ => j165 0, fun _ => j165 1⟩, fun _ => ⟨fun _ => j165 0, fun _ => j165 1⟩⟩
  exact ⟨fun _ => ⟨fun _ => ⟨fun _ => ⟨fun _ => j84 0, fun _ => j84 1⟩, fun _ => ⟨fun _ => j84 0, fun _ => j84 1⟩⟩, fun _ => j90⟩, fun _ => j90⟩
