/-! The beginning: the globals, the first function, the first thread. -/
theorem closureN_ok (s : S1) (l1 l2 n : Int32) (h : Gm s) (hnm : Nm s) (hn : 0 ≤ n ∧ n ≤ 64) (hl : l1 < 251) (hc : 0 ≤ l1 → ∀ s0, Gm s0 → Gc s s0 → Kl s s0 → ∀ k, 0 ≤ k → k < n → Lv false s0 (a_capture s0 k) 8) (hw : ¬ l1 < 0) :
    ok (M_Mo_closure l1 l2 n) s (Made s 6 (E6 l1 n)) := by
  simp only [M_Mo_closure, ok_B, ok_C, ok_R, ok_L, ok_K, ok_GI, ok_GL, ok_PI, ok_PL, ok_AI, ok_AL, ok_SI, ok_SL, ok_Pr, ok_CI, cmp_lt, cmp_le, cmp_gt, cmp_ge, cmp_eq, nar0, nar1, Sum.elim_inl, Sum.elim_inr]
  refine ⟨fun c => ?_, fun c => ok_mono (q_raise_ok s 11) fun v s' ⟨ev, es⟩ => ?_⟩
  · refine ok_mono (may_ok s 0 h) fun v s0 ⟨h0, hx, hkl, hv, hok⟩ => ⟨fun c => Or.inl ⟨rfl, h0, hx, hkl, hnm.gcx hx⟩, fun d => ?_⟩
    obtain ⟨hg, he, hm, -⟩ := hok d
    have nm0 := hnm.gcx hx
    refine ok_mono (object_ok s0 6 ⟨by decide, by decide⟩ h0.1.2.2.2.2.2.2 h0.1.2.2.1 (Int32.lt_of_lt_of_le he nm0.2.2.2.1)) fun x s1 hN => ?_
    have hx1 : 0 ≤ x ∧ x < 4100 := ⟨hN.1.1, Int32.lt_trans (Int32.lt_of_lt_of_le hN.1.2.1 hN.1.2.2) (by decide)⟩
    have e43 : f_roomAll s0 = f_roomAll s := hg.I 43 (by decide) 0
    have ht : f_entryTop s0 + n ≤ 300000 := by
      have q1 := nm0.1
      have q0 := h0.1.1.2.1
      rw [e43] at q1
      simp only [f_roomAll, f_entryTop] at *
      clear hc hw hok hN nm0 hnm h h0 hx hg
      grind
    have e41 : gI (sA (sI (sI s1 37 0 (gI s1 37 0 + n)) 43 0 (gI (sI s1 37 0 (gI s1 37 0 + n)) 43 0 + n)) 62 0 x l1) 41 0 = f_entryTop s0 := by
      simp only [gI_sI, gI_sL, gI_sA, gI_sB, gI_sAf, gI_sBf, gL_sI, gL_sL, gL_sA, gL_sB, gL_sAf, gL_sBf, gA_sI, gA_sL, gA_sA, gA_sB, gA_sAf, gA_sBf, gB_sI, gB_sL, gB_sA, gB_sB, gB_sAf, gB_sBf, Nat.reduceEqDiff, Nat.reduceMul, Nat.reduceAdd, false_and, true_and, and_true, and_false, if_true, if_false]
      exact hN.2.2.2.2.2.1 41 0 (by decide) (by decide) (by decide) (by decide) (by decide)
    have hrm : f_roomAll s0 + n ≤ 300000 := by
      rw [e43]
      exact c
    have hNm : ∀ v s2, Mk2 s0 s2 v 6 → gI s2 41 0 = f_entryTop s0 + n → gI s2 43 0 = gI (sI s1 37 0 (gI s1 37 0 + n)) 43 0 + n → gI s2 38 0 = gI s1 38 0 → gI s2 44 0 = gI s1 44 0 → Nm s2 := fun v s2 hM a b c d => by
      have w : ∀ f, f ≠ 33 → f ≠ 34 → f ≠ 40 → f ≠ 42 → f ≠ 54 → gI s1 f 0 = gI s0 f 0 := fun f p q r t u => hN.2.2.2.2.2.1 f 0 p q r t u
      refine nm0.mk2 hM (fun e => absurd e (by decide)) hm n 0 ⟨hn.1, Int32.le_trans hn.2 (by decide)⟩ ⟨by decide, by decide⟩ h0.1.1.2.1.1 h0.1.2.1.1.1 a ?_ ?_ ?_ hrm (by rw [Int32.add_zero]; exact nm0.2.1.2.2)
      · rw [gI_sI, if_neg (by decide), w 43 (by decide) (by decide) (by decide) (by decide) (by decide)] at b
        exact b
      · exact c.trans ((w 38 (by decide) (by decide) (by decide) (by decide) (by decide)).trans (Int32.add_zero _).symm)
      · exact d.trans ((w 44 (by decide) (by decide) (by decide) (by decide) (by decide)).trans (Int32.add_zero _).symm)
    refine ⟨hx1, fun e => ?_, fun e => ?_⟩
    · rw [e41]
      refine ok_mono (clos83_ok s0 s1 x l1 _ n h0 hN hn ht hl (fun _ => rfl) (fun w => hc w s0 h0 hg hkl) (fun w => absurd (Int32.lt_of_le_of_lt e w) Int32.lt_irrefl) _ _) fun v s2 ⟨ev, hM, g2, q41, ⟨q62, q63, q64⟩, q43, q38, q44⟩ => ?_
      subst ev
      exact Made.of h0 hg hkl nm0 hM (hNm v s2 hM q41 q43 q38 q44) ⟨q41, q62, q64, fun _ => q63⟩ g2
    · have e' := Int32.not_le.mp e
      refine ok_mono (clos83_ok s0 s1 x l1 l2 n h0 hN hn ht hl (fun w => absurd w e) (fun w => absurd w e) (fun w => absurd w hw) _ _) fun v s2 ⟨ev, hM, g2, q41, ⟨q62, q63, q64⟩, q43, q38, q44⟩ => ?_
      subst ev
      exact Made.of h0 hg hkl nm0 hM (hNm v s2 hM q41 q43 q38 q44) ⟨q41, q62, q64, fun w => absurd w e⟩ g2
  · subst ev es
    exact Or.inl ⟨rfl, h.raise 11 _, (Gc.refl s).x.raise 11 _, (Kl.refl s).raise 11 _ (by decide), hnm.gcx ((Gc.refl s).x.raise 11 _)⟩
theorem enterB44_ok (s : S1) (x p e : Int32) (h : RI true s) (hh : v_hand_n s = 0) (htd : f_todo s = 0 ∨ f_todo s = 3 ∨ f_todo s = 4) (ha : gI s 898 0 ≤ 250) (hx : Lv false s x 6) (hp : a_first s x = p) (hf : 0 ≤ p ∧ p < f_protos s) (he : 0 ≤ e ∧ e ≤ 250) (hs : e = 0 ∨ a_params s p + e ≤ gI s 898 0) : ok (M_Mo_enter_j44 x (cu s) p e) s (fun _ s' => Out s') := by
  have hc := h.2.2.2.2.1.1
  have hpl : 0 ≤ t_place s (cu s) := h.2.2.2.2.1.2.2.2.2.2.2.2.2.1 0 hc.1
  obtain ⟨⟨q1, q2, q3, q4⟩, -⟩ := h.1.thr hc hpl
  have pg := h.2.2.1
  have pp := pg.2.2 p hf.1 hf.2
  have pb : 0 ≤ p ∧ p < 251 := ⟨hf.1, Int32.lt_of_lt_of_le hf.2 (Int32.le_trans pg.1.2 (by decide))⟩
  have hreg : 0 ≤ a_registers s p ∧ a_registers s p ≤ 250 := ⟨Int32.le_of_lt (Int32.lt_trans (by decide) pp.2.1.1), by
    have := pp.2.1.2
    clear h pp pg q4
    grind⟩
  have hpar : 0 ≤ a_params s p ∧ a_params s p ≤ 250 := ⟨pp.1.1, Int32.le_trans pp.1.2 hreg.2⟩
  have no := ok_mono (en79_oc s h hh) fun _ _ w => w.1
  unfold M_Mo_enter_j44
  rw [ok_B, ok_K]
  refine ⟨hc, ?_⟩
  rw [ok_B]
  refine ok_mono (topOf_ok s (cu s) h.1 hc hpl pg.1.2) fun b s1 ⟨es, b0, b1⟩ => ?_
  rw [es, ok_B, ok_K]
  refine ⟨hc, ?_⟩
  rw [ok_B, ok_GI, ok_C]
  refine ⟨fun _ => no, fun c2 => ?_⟩
  have n2 : t_frames s (cu s) ≠ 200 := c2
  rw [ok_B, ok_AI]
  refine ⟨pb, ?_⟩
  rw [ok_C]
  refine ⟨fun c3 => ?_, fun _ => no⟩
  have c3' : b + e + a_registers s p ≤ 4000 := c3
  obtain ⟨m1, m2, m3, m4, m5, m6⟩ := sum_num ⟨b0, b1⟩ he hreg c3'
  obtain ⟨f1, f2, f3, f4, f5⟩ := ph_num q2 n2
  rw [ok_B]
  refine ok_mono (push0_ok s x hc q2 n2) fun _ z ez => ?_
  have et : gI z 3586 (cu s) - 1 = t_frames s (cu s) := by
    rw [ez]
    simp only [gI_sI, gI_sL, gI_sA, gI_sB, gI_sAf, gI_sBf, gL_sI, gL_sL, gL_sA, gL_sB, gL_sAf, gL_sBf, gA_sI, gA_sL, gA_sA, gA_sB, gA_sAf, gA_sBf, gB_sI, gB_sL, gB_sA, gB_sB, gB_sAf, gB_sBf, Nat.reduceEqDiff, Nat.reduceMul, Nat.reduceAdd, false_and, true_and, and_true, and_false, if_true, if_false]
    exact f3
  simp only [M_Th_top, ok_B, ok_C, ok_R, ok_L, ok_K, ok_GI, ok_GL, ok_PI, ok_PL, ok_AI, ok_AL, ok_SI, ok_SL, ok_Pr, ok_CI, cmp_lt, cmp_le, cmp_gt, cmp_ge, cmp_eq, nar0, nar1, Sum.elim_inl, Sum.elim_inr]
  rw [et]
  refine ⟨hc, hc, f2, hc, f2, hc, f2, ?_⟩
  have pw : Pw s (sA (sA (sA z 32 (cu s) (t_frames s (cu s)) 0) 34 (cu s) (t_frames s (cu s)) e) 33 (cu s) (t_frames s (cu s)) (b + e)) x (b + e) e := by
    rw [ez]
    exact push0_pw s x (b + e) e
  generalize sA (sA (sA z 32 (cu s) (t_frames s (cu s)) 0) 34 (cu s) (t_frames s (cu s)) e) 33 (cu s) (t_frames s (cu s)) (b + e) = z0 at *
  refine ok_mono (en139_ok s z0 x p e b h.1 hc pb he m1 b1 hpar ha hs pw) fun y z1 ⟨ey, v1, sk1, pw1, w1⟩ => ?_
  rw [ey]
  refine ok_mono (en180_ok s z1 v1 x p e b h.1 hc pb ⟨m2, c3'⟩ m1.2 hreg ha m3 sk1 pw1 w1) fun _ z2 ⟨v2, sk2, pw2, w2⟩ => ?_
  have r2 := h.rx (sk2.rx h.2.1)
  have ag := zero7 r2.1
  have rx3 := ag.rx (Or.inl rfl) r2.2.1
  have r3 := r2.rx rx3
  have pw3 := pw2.zero
  have I3 : ∀ f i, f ≠ 898 → gI (sI v2 898 0 0) f i = gI s f i := fun f i q => (ag.2.1 f i q).trans (sk2.2.1 f i)
  have A3 : ∀ a i j, a ≠ 20 → gA (sI v2 898 0 0) a i j = gA s a i j := fun a i j q => sk2.2.2.2.1 a i j q
  have ecu : cu (sI v2 898 0 0) = cu s := I3 72 0 (by decide)
  have efx : a_first (sI v2 898 0 0) x = p := (A3 62 0 x (by decide)).trans hp
  have erg : a_registers (sI v2 898 0 0) p = a_registers s p := A3 44 0 p (by decide)
  have e73 : f_todo (sI v2 898 0 0) = f_todo s := I3 73 0 (by decide)
  refine enter_out r3 ((I3 2050 0 (by decide)).trans hh) (by rw [e73]; exact htd) ?_ ?_ ?_ ⟨he.1, m4, m1.2⟩ he.2 ?_ (fun i a d => ?_) pw3
  · rw [ecu]
    show gI (sI v2 898 0 0) 3586 (cu s) ≠ 200
    rw [I3 3586 _ (by decide)]
    exact n2
  · unfold Lv at *
    simp only [f_used, a_sort, I3 40 0 (by decide), A3 58 _ _ (by decide)] at *
    exact ⟨hx.1, hx.2.1, hx.2.2.1, fun z => by cases z⟩
  · rw [efx]
    show 0 ≤ p ∧ p < gI (sI v2 898 0 0) 23 0
    rw [I3 23 0 (by decide)]
    exact hf
  · rw [efx, erg]
    exact c3'
  · rw [efx, erg] at d
    rw [ecu]
    have vv := w2 i (m5 i a) (m6 i d)
    have q := (Vl.sk sk2).mpr vv
    unfold Vl Lv at *
    simp only [f_used, a_sort, a_marked, v_stack_k, v_stack_v, gI_sI, gI_sL, gI_sA, gI_sB, gI_sAf, gI_sBf, gL_sI, gL_sL, gL_sA, gL_sB, gL_sAf, gL_sBf, gA_sI, gA_sL, gA_sA, gA_sB, gA_sAf, gA_sBf, gB_sI, gB_sL, gB_sA, gB_sB, gB_sAf, gB_sBf, Nat.reduceEqDiff, Nat.reduceMul, Nat.reduceAdd, false_and, true_and, and_true, and_false, if_true, if_false] at *
    exact q
theorem enterB_ok (s : S1) (x : Int32) (h : RI true s) (hh : v_hand_n s = 0) (htd : f_todo s = 0 ∨ f_todo s = 3 ∨ f_todo s = 4) (ha : v_args_n s ≤ 250) (hx : Lv false s x 6) (hf : 0 ≤ a_first s x) : ok (M_Mo_enter x) s (fun _ s' => Out s') := by
  have ha' : gI s 898 0 ≤ 250 := ha
  have n0 : 0 ≤ gI s 898 0 := h.1.2.2.2.1.2.1.1
  have fu := ((h.1.2.2.1.2 x hx.1 hx.2.1).2 hx.2.2.1 hf).1
  have pg := h.2.2.1
  have pp := pg.2.2 _ hf fu
  have pb : 0 ≤ a_first s x ∧ a_first s x < 251 := ⟨hf, Int32.lt_of_lt_of_le fu (Int32.le_trans pg.1.2 (by decide))⟩
  have hpar : 0 ≤ a_params s (a_first s x) ∧ a_params s (a_first s x) ≤ 250 := ⟨pp.1.1, Int32.le_trans pp.1.2 (by
    have := pp.2.1.2
    clear h pp pg
    grind)⟩
  have z0 := enterB44_ok s x (a_first s x) 0 h hh htd ha' hx rfl ⟨hf, fu⟩ ⟨by decide, by decide⟩ (Or.inl rfl)
  simp only [M_Mo_enter, M_Mth_max, ok_B, ok_C, ok_R, ok_L, ok_K, ok_GI, ok_GL, ok_PI, ok_PL, ok_AI, ok_AL, ok_SI, ok_SL, ok_Pr, ok_CI, cmp_lt, cmp_le, cmp_gt, cmp_ge, cmp_eq, nar0, nar1, Sum.elim_inl, Sum.elim_inr]
  refine ⟨hx.b h.1, pb, fun c => ⟨pb, fun _ => z0, fun _ => ?_⟩, fun c => ⟨pb, fun _ => z0, fun _ => z0⟩⟩
  obtain ⟨m1, m2⟩ := max_num ⟨n0, ha'⟩ hpar c
  exact enterB44_ok s x (a_first s x) _ h hh htd ha' hx rfl ⟨hf, fu⟩ m1 (Or.inr m2)
theorem closureN_x (s : S1) (h : GG s) (hz : f_noCollection s ≠ 0) (hp : 0 < f_protos s ∧ 1 = a_upvalues s 0) (hc : Lv false s (a_capture s 0) 8) : ok (M_Mo_closure 0 0 1) s (Mdx s 6 (E6 0 1)) := ok_mono (closureN_ok s 0 0 1 h.1 h.2.1 ⟨by decide, by decide⟩ (by decide) (fun _ s0 _ gc kl k k0 k1 => by
  have e : k = 0 := by
    clear hp hc
    grind
  have e2 : a_capture s0 k = a_capture s k := gc.x.A 77 (by decide) 0 k
  rw [e2, e]
  exact (kl.2 hz).1 _ _ hc) (by decide)) fun _ _ hd => hd.x h (fun e => absurd e (by decide)) (fun _ s0 hg ⟨w1, w2, w3, w4⟩ w5 => by
  rw [w2] at w5 ⊢
  refine ⟨w4 w5, ?_, ?_⟩
  · show _ < gI s0 23 0
    rw [hg.I 23 (by decide)]
    exact hp.1
  · rw [w3]
    show _ = gA s0 45 0 _
    rw [hg.x.A 45 (by decide)]
    exact hp.2)
theorem bi_num {i : Int32} (h0 : 0 ≤ i) (h1 : ¬ 24 ≤ i) : (0 ≤ i ∧ i < 24) ∧ (0 ≤ i + 1 ∧ i + 1 ≤ 24) ∧ (24 - (i + 1)).toNatClampNeg < (24 - i).toNatClampNeg ∧ -24 ≤ ((-1) - i).toInt64 ∧ ((-1) - i).toInt64 < 0 := by
  have c0 : (0 : Int32).toInt = 0 := rfl
  have c1 : (-1 : Int32).toInt = -1 := rfl
  have c4 : (24 : Int32).toInt = 24 := rfl
  have d0 : (0 : Int64).toInt = 0 := rfl
  have d4 : (-24 : Int64).toInt = -24 := rfl
  have h1' := Int32.not_le.mp h1
  have a0 := h0
  have a1 := h1'
  rw [i32_le, c0] at a0
  rw [i32_lt, c4] at a1
  have y := tI_sub (a := -1) (b := i) (by rw [c1]; omega)
  have e : (((-1) - i).toInt64).toInt = ((-1) - i).toInt := Int32.toInt_toInt64 _
  refine ⟨⟨h0, h1'⟩, ⟨by grind, by grind⟩, clamp_lt (by grind) (by grind), ?_, ?_⟩
  · rw [Int64.le_iff_toInt_le, e, y, c1, d4]
    omega
  · rw [Int64.lt_iff_toInt_lt, e, y, c1, d0]
    omega
/-- the names of what is built in -/
theorem puts_ok (s : S1) (x g : Int32) (h : GG s) (hz : f_noCollection s ≠ 0) (hh : v_hand_n s = 0) (hg : gI s 74 0 = g) (hl : Lv false s g 5) (hb : Bgn s g 0) (hn : ∀ i, 0 ≤ i → i < 24 → FL s (gA s 85 0 i)) : ok (oW M_Mo_begin_L185 (x, 0)) s (fun y s' => Nx s s' ∧ v_hand_n s' = 0 ∧ (∀ t, t_place s t < 0 → t_place s' t < 0) ∧ Sum.elim (fun _ => True) (fun q => q = x) y) := by
  refine ok_W (fun y z => y.1 = x ∧ (0 ≤ y.2 ∧ y.2 ≤ 24) ∧ Nx s z ∧ v_hand_n z = 0 ∧ (∀ t, t_place s t < 0 → t_place z t < 0) ∧ Bgn z g y.2) (fun y _ => ((24 : Int32) - y.2).toNatClampNeg) ?_ (x, 0) s ⟨rfl, ⟨(show (0 : Int32) ≤ 0 by decide), (show (0 : Int32) ≤ 24 by decide)⟩, Nx.refl h, hh, fun _ q => q, hb⟩
  rintro ⟨x', i⟩ z ⟨ex, ⟨i0, i1⟩, nx, hz0, pl, bg⟩
  dsimp only at ex i0 i1 bg
  rw [ex]
  unfold M_Mo_begin_L185
  dsimp only
  rw [ok_C]
  refine ⟨fun c => ?_, fun c => ?_⟩
  · rw [ok_R]
    exact ⟨nx, hz0, pl, rfl⟩
  obtain ⟨n1, n2, n3, n4, n5⟩ := bi_num i0 c
  have e74 : gI z 74 0 = g := (nx.2.1.I 74 (by decide) 0).trans hg
  have e85 : gA z 85 0 i = gA s 85 0 i := nx.2.1.A 85 (by decide) 0 i
  have fl := nx.2.2.2.2.1 _ (hn i n1.1 n1.2)
  have lg := nx.2.2.2.1 hz g 5 hl (by decide)
  rw [ok_B, ok_GI, e74, ok_B, ok_AI]
  refine ⟨n1, ?_⟩
  rw [e85, ok_B]
  refine ok_mono ((put_ok z g 4 6 i _ _ nx.1 lg (Vl.of fl.1 ⟨by decide, by decide⟩ nx.1.used.2) (Or.inr (Or.inl ⟨rfl, n4, n5⟩)) (by rw [hz0]; decide) (Or.inr ⟨bg, i0, i1⟩)).and (kw_Mo_put g 4 _ 6 _ z)) fun r s2 ⟨⟨p1, p2, p3, p4⟩, kw⟩ => ?_
  have nz : f_noCollection z ≠ 0 := by
    have e : f_noCollection z = f_noCollection s := nx.2.1.I 92 (by decide) 0
    rw [e]
    exact hz
  have pl2 : ∀ t, t_place s t < 0 → t_place s2 t < 0 := fun t q => kw t (pl t q)
  rw [ok_C]
  refine ⟨fun _ => ?_, fun d => ?_⟩
  · rw [ok_R]
    exact ⟨nx.trans p1, p3.trans hz0, pl2, trivial⟩
  · rw [ok_R]
    exact ⟨⟨rfl, n2, nx.trans p1, p3.trans hz0, pl2, p4 nz d⟩, n3⟩
/-- collections may come from now on -/
theorem GG.nocl {s : S1} (h : GG s) (hc : 0 ≤ f_current s ∧ f_current s < 33) (hk : ∃ ρ, Rk ρ s) (hg : Lv false s (f_globals s) 5) (h0 : Lv false s (t_place s 0) 7) (hn : ∀ n, 0 ≤ chN s n → Lv false s (t_place s (chN s n)) 7) : GG (sI s 92 0 0) := by
  obtain ⟨hm, hnm, he, hr, htc⟩ := h
  have lw : ∀ m y k, Lv m (sI s 92 0 0) y k ↔ Lv m s y k := fun m y k => by
    unfold Lv
    simp only [f_used, a_sort, a_marked, gI_sI, gI_sL, gI_sA, gI_sB, gI_sAf, gI_sBf, gL_sI, gL_sL, gL_sA, gL_sB, gL_sAf, gL_sBf, gA_sI, gA_sL, gA_sA, gA_sB, gA_sAf, gA_sBf, gB_sI, gB_sL, gB_sA, gB_sB, gB_sAf, gB_sBf, Nat.reduceEqDiff, Nat.reduceMul, Nat.reduceAdd, false_and, true_and, and_true, and_false, if_true, if_false]
  have lv : ∀ m k w, Vl m (sI s 92 0 0) k w ↔ Vl m s k w := fun m k w => by
    unfold Vl
    simp only [lw]
  have ll : ∀ m k w, Wl m (sI s 92 0 0) k w ↔ Wl m s k w := fun m k w => by
    unfold Wl
    simp only [lw, lv]
  have eI : ∀ f i, f ≠ 92 → gI (sI s 92 0 0) f i = gI s f i := fun f i q => by simp only [gI_sI, gI_sL, gI_sA, gI_sB, gI_sAf, gI_sBf, gL_sI, gL_sL, gL_sA, gL_sB, gL_sAf, gL_sBf, gA_sI, gA_sL, gA_sA, gA_sB, gA_sAf, gA_sBf, gB_sI, gB_sL, gB_sA, gB_sB, gB_sAf, gB_sBf, Nat.reduceEqDiff, Nat.reduceMul, Nat.reduceAdd, false_and, true_and, and_true, and_false, if_true, if_false, q]
  have ch := chN_I (s := s) (s' := sI s 92 0 0) (eI 72 0 (by decide)) (fun i => eI 3590 i (by decide))
  have hr' : Rws (sI s 92 0 0) := by
    unfold Rws RvV RwV at *
    simp only [lv, ll]
    simp only [v_hand_n, v_args_n, v_results_n, v_ended_n, f_errorKind, f_errorValue, f_calledKind, f_called, Nat.reduceMul, Nat.reduceAdd, gI_sI, gI_sL, gI_sA, gI_sB, gI_sAf, gI_sBf, gL_sI, gL_sL, gL_sA, gL_sB, gL_sAf, gL_sBf, gA_sI, gA_sL, gA_sA, gA_sB, gA_sAf, gA_sBf, gB_sI, gB_sL, gB_sA, gB_sB, gB_sAf, gB_sBf, Nat.reduceEqDiff, Nat.reduceMul, Nat.reduceAdd, false_and, true_and, and_true, and_false, if_true, if_false] at *
    exact hr
  have hq : Hq (sI s 92 0 0) := by
    have hs : Hs s (sI s 92 0 0) := ⟨fun _ _ _ _ => rfl, fun _ _ _ _ => rfl, fun f i q => eI f i (by omega)⟩
    exact hm.1.hs hs
  refine ⟨⟨hq, fun _ => ?_⟩, ?_, ?_, hr', (PT.same (fun t => eI 3584 t (by decide)) (eI 39 0 (by decide))).2 htc⟩
  · obtain ⟨w1, w2, w3, w4, w5, w6, w7, w8, w9, w10⟩ := hr'
    have rw1 : ∀ r, RvV (sI s 92 0 0) r → RwV false (sI s 92 0 0) r := fun r q i a b => Or.inl (q i a (by rw [Int32.zero_add] at b; exact b))
    obtain ⟨ρ, rk⟩ := hk
    refine ⟨⟨?_, ⟨ρ, ?_⟩, w1, w2, w3, w4, hq.2.2.2.2.2.2⟩, ?_, ?_, fun n a => ?_, w5, rw1 7 w6, rw1 10 w7, w9, rw1 13 w8, w10, fun _ _ _ _ _ z => by cases z⟩
    · simp only [f_current, gI_sI, gI_sL, gI_sA, gI_sB, gI_sAf, gI_sBf, gL_sI, gL_sL, gL_sA, gL_sB, gL_sAf, gL_sBf, gA_sI, gA_sL, gA_sA, gA_sB, gA_sAf, gA_sBf, gB_sI, gB_sL, gB_sA, gB_sB, gB_sAf, gB_sBf, Nat.reduceEqDiff, Nat.reduceMul, Nat.reduceAdd, false_and, true_and, and_true, and_false, if_true, if_false]
      exact hc
    · unfold Rk at *
      simp only [t_resumer, gI_sI, gI_sL, gI_sA, gI_sB, gI_sAf, gI_sBf, gL_sI, gL_sL, gL_sA, gL_sB, gL_sAf, gL_sBf, gA_sI, gA_sL, gA_sA, gA_sB, gA_sAf, gA_sBf, gB_sI, gB_sL, gB_sA, gB_sB, gB_sAf, gB_sBf, Nat.reduceEqDiff, Nat.reduceMul, Nat.reduceAdd, false_and, true_and, and_true, and_false, if_true, if_false] at *
      exact rk
    · rw [lw]
      simp only [f_globals, gI_sI, gI_sL, gI_sA, gI_sB, gI_sAf, gI_sBf, gL_sI, gL_sL, gL_sA, gL_sB, gL_sAf, gL_sBf, gA_sI, gA_sL, gA_sA, gA_sB, gA_sAf, gA_sBf, gB_sI, gB_sL, gB_sA, gB_sB, gB_sAf, gB_sBf, Nat.reduceEqDiff, Nat.reduceMul, Nat.reduceAdd, false_and, true_and, and_true, and_false, if_true, if_false]
      exact hg
    · rw [lw]
      simp only [t_place, gI_sI, gI_sL, gI_sA, gI_sB, gI_sAf, gI_sBf, gL_sI, gL_sL, gL_sA, gL_sB, gL_sAf, gL_sBf, gA_sI, gA_sL, gA_sA, gA_sB, gA_sAf, gA_sBf, gB_sI, gB_sL, gB_sA, gB_sB, gB_sAf, gB_sBf, Nat.reduceEqDiff, Nat.reduceMul, Nat.reduceAdd, false_and, true_and, and_true, and_false, if_true, if_false]
      exact h0
    · rw [ch] at a ⊢
      rw [lw]
      simp only [t_place, gI_sI, gI_sL, gI_sA, gI_sB, gI_sAf, gI_sBf, gL_sI, gL_sL, gL_sA, gL_sB, gL_sAf, gL_sBf, gA_sI, gA_sL, gA_sA, gA_sB, gA_sAf, gA_sBf, gB_sI, gB_sL, gB_sA, gB_sB, gB_sAf, gB_sBf, Nat.reduceEqDiff, Nat.reduceMul, Nat.reduceAdd, false_and, true_and, and_true, and_false, if_true, if_false]
      exact hn n a
  · unfold Nm at *
    simp only [f_entryTop, f_roomAll, f_textMade, f_textAll, f_made, f_madeAll, f_limit, f_used, a_sort, a_tag, a_second, gI_sI, gI_sL, gI_sA, gI_sB, gI_sAf, gI_sBf, gL_sI, gL_sL, gL_sA, gL_sB, gL_sAf, gL_sBf, gA_sI, gA_sL, gA_sA, gA_sB, gA_sAf, gA_sBf, gB_sI, gB_sL, gB_sA, gB_sB, gB_sAf, gB_sBf, Nat.reduceEqDiff, Nat.reduceMul, Nat.reduceAdd, false_and, true_and, and_true, and_false, if_true, if_false] at *
    exact hnm
  · unfold Ex q_Dj q_Rg Tch Fu at *
    simp only [f_used, f_protos, a_sort, a_first, a_second, a_third, a_bucket, a_follow, a_upvalues, gI_sI, gI_sL, gI_sA, gI_sB, gI_sAf, gI_sBf, gL_sI, gL_sL, gL_sA, gL_sB, gL_sAf, gL_sBf, gA_sI, gA_sL, gA_sA, gA_sB, gA_sAf, gA_sBf, gB_sI, gB_sL, gB_sA, gB_sB, gB_sAf, gB_sBf, Nat.reduceEqDiff, Nat.reduceMul, Nat.reduceAdd, false_and, true_and, and_true, and_false, if_true, if_false] at *
    exact he
