/-! Reading: constants and registers, upvalues, tables with their metatables. -/
def Gf (s s' : S1) : Prop := s' = s ∨ ∃ gk gv, s' = sL (sI s 66 0 gk) 67 0 gv
theorem Gf.got {s s' : S1} (h : Gf s s') (a : Int32) (b : Int64) : sL (sI s' 66 0 a) 67 0 b = sL (sI s 66 0 a) 67 0 b := by
  rcases h with e | ⟨c, d, e⟩
  · rw [e]
  · rw [e]
    exact got_got s c a d b
theorem Gf.hy {s s' : S1} (h : Gf s s') : Hy s s' := by
  rcases h with e | ⟨c, d, e⟩
  · rw [e]
    exact Hy.refl s
  · rw [e]
    exact ((Hy.refl s).sI (by decide)).sL
theorem Gf.hx {s s' : S1} (h : Gf s s') : Hx0 s s' := by
  rcases h with e | ⟨c, d, e⟩
  · rw [e]
    exact Hx0.refl s
  · rw [e]
    exact hx_got (Hx0.refl s) c d
theorem Gf.hs {s s' : S1} (h : Gf s s') : Hs s s' := h.hx.hw.hs
theorem Gf.I {s s' : S1} (h : Gf s s') (f : Nat) (hf : f ≠ 66) (i : Int32) : gI s' f i = gI s f i := by
  rcases h with e | ⟨c, d, e⟩
  · rw [e]
  · rw [e, gI_sL, gI_sI, if_neg (fun z => hf z.1)]
theorem Gf.ic {s s' : S1} {i : Int32} (h : Gf s s') (hi : Ic s i) : Ic s' i := hi.rx (Rx.hx hi.1.1 h.hx h.hy hi.1.2.1) (h.I 73 (by decide) 0) (h.I 2050 (by decide) 0)
theorem Gf.same {s s' : S1} (h : Gf s s') : cu s' = cu s ∧ tp s' = tp s ∧ pq s' = pq s ∧ bs s' = bs s ∧ (∀ p j, wd s' p j = wd s p j) ∧ (∀ p, a_registers s' p = a_registers s p) := by
  rcases h with e | ⟨c, d, e⟩
  · rw [e]
    exact ⟨rfl, rfl, rfl, rfl, fun _ _ => rfl, fun _ => rfl⟩
  · have e1 : cu s' = cu s := by
      rw [e]
      simp only [cu, f_current, gI_sI, gI_sL, gI_sA, gI_sB, gI_sAf, gI_sBf, gL_sI, gL_sL, gL_sA, gL_sB, gL_sAf, gL_sBf, gA_sI, gA_sL, gA_sA, gA_sB, gA_sAf, gA_sBf, gB_sI, gB_sL, gB_sA, gB_sB, gB_sAf, gB_sBf, Nat.reduceEqDiff, Nat.reduceMul, Nat.reduceAdd, false_and, true_and, and_true, and_false, if_true, if_false]
    have e2 : tp s' = tp s := by
      show gI s' 3586 (cu s') - 1 = gI s 3586 (cu s) - 1
      rw [e1, e]
      simp only [gI_sI, gI_sL, gI_sA, gI_sB, gI_sAf, gI_sBf, gL_sI, gL_sL, gL_sA, gL_sB, gL_sAf, gL_sBf, gA_sI, gA_sL, gA_sA, gA_sB, gA_sAf, gA_sBf, gB_sI, gB_sL, gB_sA, gB_sB, gB_sAf, gB_sBf, Nat.reduceEqDiff, Nat.reduceMul, Nat.reduceAdd, false_and, true_and, and_true, and_false, if_true, if_false]
    have eA : ∀ a i j, gA s' a i j = gA s a i j := fun a i j => by rw [e]; rfl
    refine ⟨e1, e2, ?_, ?_, fun p j => ?_, fun p => eA 44 0 p⟩
    · show gA s' 62 0 (gA s' 31 (cu s') (tp s')) = gA s 62 0 (gA s 31 (cu s) (tp s))
      rw [e1, e2, eA, eA]
    · show gA s' 33 (cu s') (tp s') = gA s 33 (cu s) (tp s)
      rw [e1, e2, eA]
    · show gA s' 55 0 (gA s' 49 0 p + j) = gA s 55 0 (gA s 49 0 p + j)
      rw [eA, eA]
theorem Gf.mk {s : S1} (a : Int32) (b : Int64) : Gf s (sL (sI s 66 0 a) 67 0 b) := Or.inr ⟨a, b, rfl⟩
theorem Kc.vl {s : S1} {i : Int32} (h : Kc s i) : Vl false s (v_constants_k s i) (v_constants_v s i) := by
  rcases h with h | ⟨h1, h2, h3, h4⟩
  · exact Or.inl h
  · refine Or.inr (Or.inr ?_)
    rw [h1]
    exact ⟨by decide, by decide, h2, h3, h4.1⟩
theorem constant_ok (s : S1) (p x : Int32) (h : RI false s) (hp : 0 ≤ p ∧ p < f_protos s) (hx : 0 ≤ x ∧ x < a_consts s p) : ok (M_Mo_constant p x) s (fun _ s' => ∃ k v, s' = sL (sI s 98 0 k) 99 0 v ∧ Vl false s k v) := by
  have pp := (h.2.2.1.2.2 p hp.1 hp.2).2.2.2.2.1
  have n1 := h.2.2.1.1.2
  have n2 := h.2.2.1.2.1
  have b := add_in (a := a_constAt s p) (i := x) (n := a_consts s p) (L := f_constCount s) ⟨pp.1, Int32.le_trans pp.2.2.1 (by decide)⟩ hx.1 hx.2 (Int32.le_trans pp.2.2.2.1 (by decide)) pp.2.2.2.2
  have b1 : 0 ≤ a_constAt s p + x ∧ a_constAt s p + x < 20001 := ⟨b.1, Int32.lt_of_lt_of_le b.2 (Int32.le_trans n2.2 (by decide))⟩
  simp only [M_Mo_constant, ok_B, ok_C, ok_R, ok_L, ok_K, ok_GI, ok_GL, ok_PI, ok_PL, ok_AI, ok_AL, ok_SI, ok_SL, ok_Pr, ok_CI, cmp_lt, cmp_le, cmp_gt, cmp_ge, cmp_eq, nar0, nar1, Sum.elim_inl, Sum.elim_inr]
  refine ⟨⟨hp.1, Int32.lt_of_lt_of_le hp.2 (Int32.le_trans n1 (by decide))⟩, b1, b1, _, _, rfl, (h.2.2.2.1.2.2.2 _ b.1 b.2).vl⟩
theorem rk_ok (s : S1) (i x : Int32) (h : Ic s i) (hx0 : 0 ≤ x) (hx : Rq s (pq s) x) : ok (M_Mo_rk_ (cu s) (tp s) (pq s) x) s (fun _ s' => ∃ k v, s' = sL (sI s 98 0 k) 99 0 v ∧ Vl false s k v) := by
  obtain ⟨t1, t2, t3, t4, t5, t6, t7, t8, t9, t10, t11, -⟩ := h.1.top h.2.1.1 h.2.1.2.1
  have b1 : 0 ≤ tp s ∧ tp s < 201 := ⟨t3.1, Int32.lt_trans t3.2 (by decide)⟩
  simp only [M_Mo_rk_, ok_B, ok_C, ok_R, ok_L, ok_K, ok_GI, ok_GL, ok_PI, ok_PL, ok_AI, ok_AL, ok_SI, ok_SL, ok_Pr, ok_CI, cmp_lt, cmp_le, cmp_gt, cmp_ge, cmp_eq, nar0, nar1, Sum.elim_inl, Sum.elim_inr]
  refine ⟨fun c => ?_, fun c => ?_⟩
  · have lt : x < a_registers s (pq s) := hx.1 (by clear h hx t11 t7; grind)
    obtain ⟨q1, q2⟩ := t11 x hx0 lt
    have q3 : 0 ≤ bs s + x ∧ bs s + x < 4300 := ⟨q1.1, Int32.lt_trans q1.2 (by decide)⟩
    exact ⟨b1, q3, b1, q3, _, _, rfl, q2⟩
  · have ge : 256 ≤ x ∧ 0 ≤ x - 256 := by
      clear h hx t11 t7
      exact ⟨by grind, by grind⟩
    exact constant_ok s (pq s) (x - 256) h.1 t6 ⟨ge.2, hx.2 ge.1⟩
/-- what is read of rk changes nothing -/
def Rf (s s' : S1) : Prop := ∃ k v, s' = sL (sI s 98 0 k) 99 0 v
theorem Rf.hy {s s' : S1} (h : Rf s s') : Hy s s' := by
  obtain ⟨c, d, e⟩ := h
  rw [e]
  exact ((Hy.refl s).sI (by decide)).sL
theorem Rf.hx {s s' : S1} (h : Rf s s') : Hx0 s s' := by
  obtain ⟨c, d, e⟩ := h
  rw [e]
  exact ((Hx0.refl s).sI (by decide)).sL (by decide)
theorem Rf.hs {s s' : S1} (h : Rf s s') : Hs s s' := h.hx.hw.hs
theorem Rf.I {s s' : S1} (h : Rf s s') (f : Nat) (hf : f ≠ 98) (i : Int32) : gI s' f i = gI s f i := by
  obtain ⟨c, d, e⟩ := h
  rw [e, gI_sL, gI_sI, if_neg (fun z => hf z.1)]
theorem Rf.ic {s s' : S1} {i : Int32} (h : Rf s s') (hi : Ic s i) : Ic s' i := hi.rx (Rx.hx hi.1.1 h.hx h.hy hi.1.2.1) (h.I 73 (by decide) 0) (h.I 2050 (by decide) 0)
theorem Rf.same {s s' : S1} (h : Rf s s') : cu s' = cu s ∧ tp s' = tp s ∧ pq s' = pq s ∧ bs s' = bs s ∧ (∀ p j, wd s' p j = wd s p j) ∧ (∀ p, a_registers s' p = a_registers s p) ∧ (∀ a i j, gA s' a i j = gA s a i j) ∧ (∀ a i j, gB s' a i j = gB s a i j) := by
  have h0 := h
  obtain ⟨c, d, e⟩ := h
  have e1 : cu s' = cu s := h0.I 72 (by decide) 0
  have e2 : tp s' = tp s := by
    show gI s' 3586 (cu s') - 1 = gI s 3586 (cu s) - 1
    rw [e1, h0.I 3586 (by decide)]
  have eA : ∀ a i j, gA s' a i j = gA s a i j := fun a i j => by rw [e]; rfl
  refine ⟨e1, e2, ?_, ?_, fun p j => ?_, fun p => eA 44 0 p, eA, fun a i j => by rw [e]; rfl⟩
  · show gA s' 62 0 (gA s' 31 (cu s') (tp s')) = gA s 62 0 (gA s 31 (cu s) (tp s))
    rw [e1, e2, eA, eA]
  · show gA s' 33 (cu s') (tp s') = gA s 33 (cu s) (tp s)
    rw [e1, e2, eA]
  · show gA s' 55 0 (gA s' 49 0 p + j) = gA s 55 0 (gA s 49 0 p + j)
    rw [eA, eA]
theorem Vl.lv5 {s : S1} {v : Int64} {k : Int32} (h : Vl false s k v) (hk : k = 4 ∨ k = 5 ∨ k = 7) : Lv false s v.toInt32 k := by
  rcases h with w | w | w
  · exfalso
    rcases hk with e | e | e <;> rw [e] at w <;> exact absurd w.2 (by decide)
  · exfalso
    rcases hk with e | e | e <;> rw [e] at w <;> exact absurd w.1 (by decide)
  · exact w.2.2.2.2
/-- a value set in a register ends an instruction -/
theorem Ic.set {s : S1} {i r k : Int32} {v : Int64} (h : Ic s i) (hr : 0 ≤ r ∧ r < a_registers s (pq s)) (hv : Vl false s k v) : ok (M_Va_set 19 (cu s) (bs s + r) k v) s (fun _ s' => Ic s' i ∧ Ss s s' ∧ (∀ p j, wd s' p j = wd s p j) ∧ pq s' = pq s ∧ cu s' = cu s ∧ tp s' = tp s ∧ bs s' = bs s) := by
  obtain ⟨t1, t2, t3, t4, t5, t6, t7, t8, t9, t10, t11, -⟩ := h.1.top h.2.1.1 h.2.1.2.1
  have q := (t11 r hr.1 hr.2).1
  have b : 0 ≤ bs s + r ∧ bs s + r < 4300 := ⟨q.1, Int32.lt_trans q.2 (by decide)⟩
  have w1 := setS_rx s (cu s) (bs s + r) k v h.1.1 h.1.2.1 b hv
  have w2 := setS_ok s (cu s) (bs s + r) k v b hv
  obtain ⟨a, s', e1, e2, e3⟩ := ok_out w1
  obtain ⟨a', s'', e4, e5, e6⟩ := ok_out w2
  have e7 : s'' = s' := by
    rw [e1] at e4
    cases e4
    rfl
  rw [e7] at e6
  obtain ⟨q1, q2, q3, q4⟩ := e3.same h.1 h.2.1.1 h.2.1.2.1
  refine ok_in e1 ⟨h.rx e3 (e6.1 73 0) (e6.1 2050 0), e6, fun p j => ?_, q3, q1, q2, q4⟩
  show gA s' 55 0 (gA s' 49 0 p + j) = gA s 55 0 (gA s 49 0 p + j)
  rw [e6.A 49 (by decide), e6.A 55 (by decide)]
theorem top_num {τ : Bool} {s : S1} (h : RI τ s) (ht : 0 ≤ tp s) (hk : t_kind s (cu s) (tp s) = 0) : (0 ≤ cu s ∧ cu s < 33) ∧ (0 ≤ tp s ∧ tp s < 200) ∧ (0 ≤ tp s ∧ tp s < 201) := by
  obtain ⟨t1, t2, t3, -⟩ := h.top ht hk
  exact ⟨t1, t3, t3.1, Int32.lt_trans t3.2 (by decide)⟩
theorem index_ok (s : S1) (i k kk a : Int32) (v kv : Int64) (h : Ic s i) (hv : Vl false s k v) (hk : Vl false s kk kv) (ha : 0 ≤ a ∧ a < a_registers s (pq s)) (hm : ¬ mks (wd s (pq s) i)) (hu : ¬ us (wd s (pq s) i)) (ho : iO (wd s (pq s) i) ≠ 30 ∧ iO (wd s (pq s) i) ≠ 37 ∧ iO (wd s (pq s) i) ≠ 38) : ok (M_Mo_index k v kk kv a) s (fun _ s' => Out s') := by
  have hx := h.1.2.2.2.1
  simp only [M_Mo_index, ok_B, ok_C, ok_R, ok_L, ok_K, ok_GI, ok_GL, ok_PI, ok_PL, ok_AI, ok_AL, ok_SI, ok_SL, ok_Pr, ok_CI, cmp_lt, cmp_le, cmp_gt, cmp_ge, cmp_eq, nar0, nar1, Sum.elim_inl, Sum.elim_inr]
  refine ok_mono (ok_W (Q := fun y s' => Gf s s' ∧ Sum.elim (fun _ => True) (Sum.elim (fun z => z.1 = a ∧ Vl false s z.2.1 z.2.2) (Sum.elim (fun z => z.1 = kk ∧ z.2.1 = kv ∧ z.2.2.1 = a ∧ Vl false s z.2.2.2.1 z.2.2.2.2 ∧ Vl false s (gI s' 66 0) (gL s' 67 0)) (fun _ => True))) y)
    (fun x s' => Gf s s' ∧ x.1 = kk ∧ x.2.1 = kv ∧ x.2.2.1 = a ∧ Vl false s x.2.2.2.1 x.2.2.2.2.1 ∧ 1 ≤ x.2.2.2.2.2 ∧ x.2.2.2.2.2 ≤ 100) (fun x _ => (101 - x.2.2.2.2.2).toNatClampNeg) ?_ _ _ ⟨Or.inl rfl, rfl, rfl, rfl, hv, (show (1 : Int32) ≤ 1 by decide), (show (1 : Int32) ≤ 100 by decide)⟩) ?_
  · rintro ⟨x1, x2, x3, x4, x5, x6⟩ s1 ⟨g1, e1, e2, e3, e4, e5, e6⟩
    dsimp only at e1 e2 e3 e4 e5 e6
    subst e1 e2 e3
    simp only [M_Mo_index_L9, ok_B, ok_C, ok_R, ok_L, ok_K, ok_GI, ok_GL, ok_PI, ok_PL, ok_AI, ok_AL, ok_SI, ok_SL, ok_Pr, ok_CI, cmp_lt, cmp_le, cmp_gt, cmp_ge, cmp_eq, nar0, nar1, Sum.elim_inl, Sum.elim_inr]
    refine ⟨fun c => ?_, fun c => ⟨g1, by trivial⟩⟩
    subst c
    have i1 := g1.ic h
    have l1 : Lv false s1 x5.toInt32 5 := (Lv.hs g1.hs).mpr (e4.lv5 (Or.inr (Or.inl rfl)))
    refine ok_mono (raw_ok s1 x5.toInt32 x1 x2 i1.1.1 l1) fun r s2 ⟨gk, gv, es, q1, q2, q3, q4⟩ => ?_
    rw [g1.got] at es
    have g2 : Gf s s2 := Or.inr ⟨gk, gv, es⟩
    have r66 : gI s2 66 0 = gk ∧ gL s2 67 0 = gv := by
      rw [es]
      simp only [gI_sI, gI_sL, gI_sA, gI_sB, gI_sAf, gI_sBf, gL_sI, gL_sL, gL_sA, gL_sB, gL_sAf, gL_sBf, gA_sI, gA_sL, gA_sA, gA_sB, gA_sAf, gA_sBf, gB_sI, gB_sL, gB_sA, gB_sB, gB_sAf, gB_sBf, Nat.reduceEqDiff, Nat.reduceMul, Nat.reduceAdd, false_and, true_and, and_true, and_false, if_true, if_false]
    have vg : Vl false s gk gv := (Vl.hs g1.hs).mp q1
    rw [r66.1, r66.2]
    refine ⟨fun c => ?_, fun c => ⟨g2, by trivial, vg⟩⟩
    have i2 := g2.ic h
    refine ok_mono (meta_ok s2 5 0 x5 i2.1.1 i2.1.2.2.2.1 ((Vl.hs g2.hs).mpr e4) ⟨by decide, by decide⟩) fun r3 s3 ⟨hk3, hv3, es3, p2⟩ => ?_
    rw [g2.got] at es3
    have g3 : Gf s s3 := Or.inr ⟨hk3, hv3, es3⟩
    have r67 : gI s3 66 0 = hk3 ∧ gL s3 67 0 = hv3 := by
      rw [es3]
      simp only [gI_sI, gI_sL, gI_sA, gI_sB, gI_sAf, gI_sBf, gL_sI, gL_sL, gL_sA, gL_sB, gL_sAf, gL_sBf, gA_sI, gA_sL, gA_sA, gA_sB, gA_sAf, gA_sBf, gB_sI, gB_sL, gB_sA, gB_sB, gB_sAf, gB_sBf, Nat.reduceEqDiff, Nat.reduceMul, Nat.reduceAdd, false_and, true_and, and_true, and_false, if_true, if_false]
    refine ⟨fun d => ⟨g3, by trivial, vg⟩, fun d => ?_⟩
    have vh : Vl false s hk3 hv3 := (Vl.hs g2.hs).mp (p2 d).1
    rw [r67.1, r67.2]
    refine ⟨fun f => ⟨g3, by trivial, by trivial, by trivial, e4, vh⟩, fun f => ⟨fun g => ⟨g3, by trivial⟩, fun g => ?_⟩⟩
    have nn : (1 ≤ x6 + 1 ∧ x6 + 1 ≤ 100) ∧ (101 - (x6 + 1)).toNatClampNeg < (101 - x6).toNatClampNeg := by
      clear g1 g2 g3 i1 i2 l1 q1 q2 q3 q4 p2 vh vg r66 r67 es es3 e4 h hx hv hk hm hu ho ha
      exact ⟨⟨by grind, by grind⟩, clamp_lt (by grind) (by grind)⟩
    exact ⟨⟨g3, by trivial, by trivial, by trivial, vh, nn.1⟩, nn.2⟩
  · rintro y s1 ⟨g1, hy⟩
    have i1 := g1.ic h
    obtain ⟨c1, c2, c3, c4, c5, c6⟩ := g1.same
    have n1 := top_num i1.1 i1.2.1.1 i1.2.1.2.1
    rcases y with y | y | y | y
    · simp only [ok_B, ok_C, ok_R, ok_L, ok_K, ok_GI, ok_GL, ok_PI, ok_PL, ok_AI, ok_AL, ok_SI, ok_SL, ok_Pr, ok_CI, cmp_lt, cmp_le, cmp_gt, cmp_ge, cmp_eq, nar0, nar1, Sum.elim_inl, Sum.elim_inr]
      refine ok_mono (q_raise_ok s1 2) fun w s2 ⟨ew, es⟩ => ?_
      subst es
      exact i1.raise 2 _ (by decide)
    · obtain ⟨y1, y2, y3⟩ := y
      simp only [Sum.elim_inl, Sum.elim_inr] at hy
      obtain ⟨z1, z2⟩ := hy
      subst z1
      simp only [M_Mo_index_j64, M_Th_top, ok_B, ok_C, ok_R, ok_L, ok_K, ok_GI, ok_GL, ok_PI, ok_PL, ok_AI, ok_AL, ok_SI, ok_SL, ok_Pr, ok_CI, cmp_lt, cmp_le, cmp_gt, cmp_ge, cmp_eq, nar0, nar1, Sum.elim_inl, Sum.elim_inr]
      refine ⟨n1.1, n1.1, n1.1, n1.2.2, ?_⟩
      have w := i1.set (r := y1) (k := y2) (v := y3) (by rw [c3, c6]; exact ha) ((Vl.hs g1.hs).mpr z2)
      refine ok_mono w fun _ s2 ⟨i2, ss, w2, w3, _⟩ => i2.done ?_ ?_ ?_
      · rw [w2, w3, c3, c5]
        exact hm
      · rw [w2, w3, c3, c5]
        exact hu
      · rw [w2, w3, c3, c5]
        exact ho
    · obtain ⟨y1, y2, y3, y4, y5⟩ := y
      simp only [Sum.elim_inl, Sum.elim_inr] at hy
      have z1 := hy.1
      have z2 := hy.2.1
      have z3 := hy.2.2.1
      have z4 := hy.2.2.2.1
      have z5 := hy.2.2.2.2
      clear hy
      subst z1 z2 z3
      simp only [ok_B, ok_C, ok_R, ok_L, ok_K, ok_GI, ok_GL, ok_PI, ok_PL, ok_AI, ok_AL, ok_SI, ok_SL, ok_Pr, ok_CI, cmp_lt, cmp_le, cmp_gt, cmp_ge, cmp_eq, nar0, nar1, Sum.elim_inl, Sum.elim_inr]
      refine ok_mono (arguments_ok s1 y4 y1 y5 y2 i1.1.1 ((Vl.hs g1.hs).mpr z4) ((Vl.hs g1.hs).mpr hk)) fun _ s2 ⟨ag, an⟩ => ?_
      have rx2 := ag.rx (Or.inl rfl) i1.1.2.1
      have i2 := i1.rx rx2 (ag.2.1 73 0 (by decide)) (ag.2.1 2050 0 (by decide))
      obtain ⟨d1, d2, d3, d4⟩ := rx2.same i1.1 i1.2.1.1 i1.2.1.2.1
      have n2 := top_num i2.1 i2.2.1.1 i2.2.1.2.1
      refine ok_mono (expect_ok s2 1 y3 1 i2.1.1 n2.1 n2.2.1) fun _ s3 ⟨e3, g3, ec⟩ => ?_
      simp only [M_Mo_callGot, ok_B, ok_C, ok_R, ok_L, ok_K, ok_GI, ok_GL, ok_PI, ok_PL, ok_AI, ok_AL, ok_SI, ok_SL, ok_Pr, ok_CI, cmp_lt, cmp_le, cmp_gt, cmp_ge, cmp_eq, nar0, nar1, Sum.elim_inl, Sum.elim_inr]
      have r66 : gI s3 66 0 = gI s1 66 0 := by
        rw [e3]
        exact ag.2.1 66 0 (by decide)
      have r67 : gL s3 67 0 = gL s1 67 0 := by
        rw [e3]
        exact ag.2.2.1 67 0
      simp only [gI_sI, gI_sL, gI_sA, gI_sB, gI_sAf, gI_sBf, gL_sI, gL_sL, gL_sA, gL_sB, gL_sAf, gL_sBf, gA_sI, gA_sL, gA_sA, gA_sB, gA_sAf, gA_sBf, gB_sI, gB_sL, gB_sA, gB_sB, gB_sAf, gB_sBf, Nat.reduceEqDiff, Nat.reduceMul, Nat.reduceAdd, false_and, true_and, and_true, and_false, if_true, if_false, r66, r67]
      have hh : Hs s1 s3 := by
        have q := ag.h7
        have q2 : Hs s2 s3 := by
          rw [e3]
          exact (((Hw.refl s2).sA (by decide)).sA (by decide)).sA (by decide) |>.hs
        exact ⟨fun a i j p => (q2.1 a i j p).trans (q.1 a i j p), fun a i j p => (q2.2.1 a i j p).trans (q.2.1 a i j p), fun f i p => (q2.2.2 f i p).trans (q.2.2 f i p)⟩
      have vc : Vl false s3 (gI s1 66 0) (gL s1 67 0) := (Vl.hs hh).mpr ((Vl.hs g1.hs).mpr z5)
      have e73 : gI s3 2050 0 = 0 := by
        rw [e3]
        exact i2.2.2.2
      have e898 : gI s3 898 0 = 2 := by
        rw [e3]
        exact an
      generalize gI s1 66 0 = gk at *
      generalize gL s1 67 0 = gv at *
      have gg := g3.calling vc
      have g4 : GG (sI (sL (sI s3 75 0 gk) 76 0 gv) 73 0 1) := gg.hx ((Hx0.refl _).sI (by decide))
      refine i2.call (ec.hy (((Hy.refl s3).sI (by decide)).sL.sI (by decide))) g4 ?_ ?_ ?_ ?_ ?_ ?_ ?_
      · simp only [f_todo, gI_sI, gI_sL, gI_sA, gI_sB, gI_sAf, gI_sBf, gL_sI, gL_sL, gL_sA, gL_sB, gL_sAf, gL_sBf, gA_sI, gA_sL, gA_sA, gA_sB, gA_sAf, gA_sBf, gB_sI, gB_sL, gB_sA, gB_sB, gB_sAf, gB_sBf, Nat.reduceEqDiff, Nat.reduceMul, Nat.reduceAdd, false_and, true_and, and_true, and_false, if_true, if_false]
      · simp only [v_hand_n, gI_sI, gI_sL, gI_sA, gI_sB, gI_sAf, gI_sBf, gL_sI, gL_sL, gL_sA, gL_sB, gL_sAf, gL_sBf, gA_sI, gA_sL, gA_sA, gA_sB, gA_sAf, gA_sBf, gB_sI, gB_sL, gB_sA, gB_sB, gB_sAf, gB_sBf, Nat.reduceEqDiff, Nat.reduceMul, Nat.reduceAdd, false_and, true_and, and_true, and_false, if_true, if_false]
        exact e73
      · simp only [v_args_n, gI_sI, gI_sL, gI_sA, gI_sB, gI_sAf, gI_sBf, gL_sI, gL_sL, gL_sA, gL_sB, gL_sAf, gL_sBf, gA_sI, gA_sL, gA_sA, gA_sB, gA_sAf, gA_sBf, gB_sI, gB_sL, gB_sA, gB_sB, gB_sAf, gB_sBf, Nat.reduceEqDiff, Nat.reduceMul, Nat.reduceAdd, false_and, true_and, and_true, and_false, if_true, if_false]
        rw [e898]
        decide
      all_goals
        have wd2 : wd s2 (pq s2) i = wd s (pq s) i := by
          rw [d3, c3]
          show gA s2 55 0 (gA s2 49 0 _ + i) = _
          rw [ag.2.2.2.1 49 0 _ (by decide), ag.2.2.2.1 55 0 _ (by decide)]
          exact c5 _ _
      · rw [wd2]
        exact hm
      · rw [wd2]
        exact hu
      · rw [wd2]
        exact ho
      · refine Or.inl ⟨rfl, ha.1, ?_⟩
        rw [d3, c3]
        show _ < gA s2 44 0 _
        rw [ag.2.2.2.1 44 0 _ (by decide)]
        show _ < a_registers s1 _
        rw [c6]
        exact ha.2
    · simp only [ok_B, ok_C, ok_R, ok_L, ok_K, ok_GI, ok_GL, ok_PI, ok_PL, ok_AI, ok_AL, ok_SI, ok_SL, ok_Pr, ok_CI, cmp_lt, cmp_le, cmp_gt, cmp_ge, cmp_eq, nar0, nar1, Sum.elim_inl, Sum.elim_inr]
      refine ok_mono (q_raise_ok s1 4) fun w s2 ⟨ew, es⟩ => ?_
      subst es
      exact i1.raise 4 _ (by decide)
