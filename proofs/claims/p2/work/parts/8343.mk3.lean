/-! Variables and tables are made. -/
/-! The numbers. -/
def Nm (s : S1) : Prop := (f_entryTop s ≤ f_roomAll s ∧ 0 ≤ f_roomAll s ∧ f_roomAll s ≤ 300000) ∧ (f_textMade s ≤ f_textAll s ∧ 0 ≤ f_textAll s ∧ f_textAll s ≤ 400000) ∧ (0 ≤ f_made s ∧ f_made s ≤ f_madeAll s ∧ f_madeAll s ≤ 60000) ∧ f_limit s ≤ 4000 ∧ ∀ x, 0 ≤ x → x < f_used s → a_sort s x = 4 → a_tag s x < f_made s ∧ a_second s x ≤ 266667
theorem Gc.I {s s' : S1} (h : Gc s s') (f : Nat) (hf : f ≠ 34 ∧ f ≠ 35 ∧ f ≠ 36 ∧ f ≠ 39 ∧ f ≠ 54 ∧ f ≠ 66 ∧ f ≠ 69 ∧ f ≠ 3584 ∧ f ≠ 3587) (i : Int32) : gI s' f i = gI s f i := h.1 f i hf.1 hf.2.1 hf.2.2.1 hf.2.2.2.1 hf.2.2.2.2.1 hf.2.2.2.2.2.1 hf.2.2.2.2.2.2.1 hf.2.2.2.2.2.2.2.1 hf.2.2.2.2.2.2.2.2
theorem Gcx.I {s s' : S1} (h : Gcx s s') (f : Nat) (hf : f ≠ 34 ∧ f ≠ 35 ∧ f ≠ 36 ∧ f ≠ 39 ∧ f ≠ 54 ∧ f ≠ 64 ∧ f ≠ 66 ∧ f ≠ 69 ∧ f ≠ 73 ∧ f ≠ 3584 ∧ f ≠ 3587) (i : Int32) : gI s' f i = gI s f i := h.1 f i hf.1 hf.2.1 hf.2.2.1 hf.2.2.2.1 hf.2.2.2.2.1 hf.2.2.2.2.2.1 hf.2.2.2.2.2.2.1 hf.2.2.2.2.2.2.2.1 hf.2.2.2.2.2.2.2.2.1 hf.2.2.2.2.2.2.2.2.2.1 hf.2.2.2.2.2.2.2.2.2.2
theorem Gcx.A {s s' : S1} (h : Gcx s s') (a : Nat) (ha : a ≠ 5 ∧ a ≠ 58 ∧ a ≠ 59 ∧ a ≠ 62 ∧ a ≠ 65 ∧ a ≠ 66 ∧ a ≠ 68 ∧ a ≠ 75) (i j : Int32) : gA s' a i j = gA s a i j := h.2.2.1 a i j ha.1 ha.2.1 ha.2.2.1 ha.2.2.2.1 ha.2.2.2.2.1 ha.2.2.2.2.2.1 ha.2.2.2.2.2.2.1 ha.2.2.2.2.2.2.2
theorem Nm.gcx {s s' : S1} (h : Nm s) (hg : Gcx s s') : Nm s' := by
  obtain ⟨h1, h2, h3, h4, h5⟩ := h
  have et : ∀ x, a_tag s' x = a_tag s x := fun x => hg.A 61 (by decide) 0 x
  have e2 : ∀ x, a_second s' x = a_second s x := fun x => hg.A 63 (by decide) 0 x
  have hso := hg.2.2.2.2.2.1
  unfold Nm
  simp only [et, e2]
  simp only [f_entryTop, f_roomAll, f_textMade, f_textAll, f_made, f_madeAll, f_limit, f_used, hg.I 41 (by decide), hg.I 43 (by decide), hg.I 38 (by decide), hg.I 44 (by decide), hg.I 33 (by decide), hg.I 42 (by decide), hg.I 32 (by decide), hg.I 40 (by decide)] at *
  refine ⟨h1, h2, h3, h4, fun x a b c => h5 x a b ?_⟩
  rcases hso x a b with w | w
  · rw [w] at c
    exact absurd c (by decide)
  · rw [← w]
    exact c
theorem Nm.mk2 {s s' : S1} {x k : Int32} (h : Nm s) (hM : Mk2 s s' x k) (h4 : k = 4 → a_second s' x ≤ 266667) (hm : f_madeAll s ≠ 60000) (n m : Int32) (hn : 0 ≤ n ∧ n ≤ 300000) (hm2 : 0 ≤ m ∧ m ≤ 400000) (ht : 0 ≤ f_entryTop s) (hx : 0 ≤ f_textMade s)
    (e41 : f_entryTop s' = f_entryTop s + n) (e43 : f_roomAll s' = f_roomAll s + n) (e38 : f_textMade s' = f_textMade s + m) (e44 : f_textAll s' = f_textAll s + m) (b1 : f_roomAll s + n ≤ 300000) (b2 : f_textAll s + m ≤ 400000) : Nm s' := by
  have hk4 := h4
  obtain ⟨h1, h2, h3, h4, h5⟩ := h
  obtain ⟨m1, m2, m3, -⟩ := hM.2.2.2.2.2.2.2.2.2.2.2.2.2
  have el : f_limit s' = f_limit s := hM.I 32 (by decide) 0
  have lt1 : f_made s < f_made s + 1 ∧ ∀ z, z < f_made s → z < f_made s + 1 := by
    clear h5 hM hk4
    exact ⟨by grind, fun z w => by grind⟩
  refine ⟨?_, ?_, ?_, by rw [el]; exact h4, fun z a b c => ?_⟩
  · rw [e41, e43]
    clear h5 hM hk4
    grind
  · rw [e38, e44]
    clear h5 hM hk4
    grind
  · rw [m1, m2]
    clear h5 hM hk4
    grind
  · by_cases d : z = x
    · rw [d] at c ⊢
      rw [m3, m1]
      rw [hM.S, if_pos rfl] at c
      exact ⟨lt1.1, hk4 c⟩
    · rw [(hM.P d).2.2.2.2.1, m1, (hM.P d).2.1]
      rw [hM.S, if_neg d] at c
      have q := h5 z a (hM.2.2.1 z d b) c
      exact ⟨lt1.2 _ q.1, q.2⟩
theorem Gm.mk2 {s s' : S1} {x k : Int32} (h : Gm s) (hs : Mk2 s s' x k) (hk : k ≠ 0) (hsh : Sh s' x) (hpc : PcV false s' x) (h8 : k = 8 → a_first s' x < 0) (hst' : Str s') : Gm s' := by
  obtain ⟨⟨⟨v1, v2, v3⟩, hst, hfr, hov, hcv, htp, hu⟩, hroots⟩ := h
  have htop := hs.2.2.2.2.2.2.2.2.2.2.2.2.1
  have eP : ∀ t, t_place s' t = t_place s t := fun t => hs.I 3584 (by decide) t
  have eO : ∀ t, t_openCount s' t = t_openCount s t := fun t => hs.I 3587 (by decide) t
  have eT : ∀ t j, t_open s' t j = t_open s t j := fun t j => hs.A 29 (by decide) t j
  have hu' : 0 ≤ f_used s' ∧ f_used s' ≤ 4000 := ⟨Int32.le_of_lt (Int32.lt_of_le_of_lt hs.1.1 hs.1.2.1), hs.1.2.2⟩
  refine ⟨⟨⟨?_, ⟨Int32.le_trans v2.1 htop.1, htop.2⟩, fun z a b => ?_⟩, hst', hs.2.2.2.2.1, fun t t1 t2 t3 => ?_, fun y hy hf => ?_, fun t t1 t2 t3 => ?_, hu'⟩, fun z => ?_⟩
  · unfold Rm at *
    simp only [a_sort, a_tag, a_first, a_second, a_third, a_chain, a_free, a_text, a_heads, a_ek, a_ev, a_vk, a_vv, a_follow, a_bucket, a_registers, f_used, v_variable_k, v_variable_v, v_stack_k, v_stack_v, v_row_k, v_row_v, v_start_n, v_start_k, v_start_v, t_place, t_frames, t_openCount, t_open, t_kind, t_function, t_base, t_extra, t_rowCount, p_ek, p_vk, p_ev, p_vv, p_follow, p_bucket, hs.A 20 (by decide), hs.A 23 (by decide), hs.A 26 (by decide), hs.A 29 (by decide), hs.A 30 (by decide), hs.A 31 (by decide), hs.A 32 (by decide), hs.A 33 (by decide), hs.A 34 (by decide), hs.A 35 (by decide), hs.A 36 (by decide), hs.A 44 (by decide), hs.A 69 (by decide), hs.A 70 (by decide), hs.B 21 (by decide), hs.B 24 (by decide), hs.B 27 (by decide), hs.B 71 (by decide), hs.B 72 (by decide), hs.I 3202 (by decide), hs.I 3584 (by decide), hs.I 3586 (by decide), hs.I 3587 (by decide), hs.I 8959 (by decide), hs.I 9087 (by decide), hs.I 9215 (by decide), hs.I 9343 (by decide), hs.I 9471 (by decide), hs.I 9599 (by decide)] at *
    exact v1
  · by_cases c : z = x
    · rw [c]
      exact ⟨hsh, hpc⟩
    · have b' := hs.2.2.1 z c b
      exact old_mk2 (v3 z a b').1 (v3 z a b').2 c v2 hs
  · rw [eP] at t3
    rw [eO]
    simp only [eT]
    obtain ⟨w1, w2⟩ := hov t t1 t2 t3
    refine ⟨fun j a b => ⟨(w1 j a b).1.mk2 hs (by decide), ?_⟩, w2⟩
    rw [(hs.P (hs.ne (w1 j a b).1 (by decide))).1]
    exact (w1 j a b).2
  · have c : y ≠ x := fun c => by
      have e := hy.2.2.1
      rw [hs.S, if_pos c] at e
      have := h8 e
      rw [← c] at this
      exact absurd (Int32.lt_of_le_of_lt hf this) Int32.lt_irrefl
    have e := hy.2.2.1
    rw [hs.S, if_neg c] at e
    have hy' : Lv false s y 8 := ⟨hy.1, hs.2.2.1 y c hy.2.1, e, fun z => by cases z⟩
    rw [(hs.P c).1] at hf ⊢
    rw [eP, eO]
    simp only [eT]
    exact hcv y hy' hf
  · rw [eP] at t3 ⊢
    obtain ⟨w1, w2⟩ := htp t t1 t2 t3
    refine ⟨w1.mk2 hs (by decide), ?_⟩
    rw [(hs.P (hs.ne w1 (by decide))).1]
    exact w2
  · have z' : f_noCollection s = 0 := by
      have : gI s' 92 0 = 0 := z
      rw [hs.I 92 (by decide)] at this
      exact this
    obtain ⟨⟨r1, ⟨ρ, r2⟩, r3⟩, q1, q2, q3, q4, q5, q6, q7, q8, q9, q10⟩ := hroots z'
    have e := chN_I (hs.I 72 (by decide) 0) (hs.I 3590 (by decide))
    have hrw : ∀ r, (128 * r + 2 ≠ 33 ∧ 128 * r + 2 ≠ 34 ∧ 128 * r + 2 ≠ 37 ∧ 128 * r + 2 ≠ 40 ∧ 128 * r + 2 ≠ 41 ∧ 128 * r + 2 ≠ 42 ∧ 128 * r + 2 ≠ 43 ∧ 128 * r + 2 ≠ 54 ∧ 128 * r + 2 ≠ 38 ∧ 128 * r + 2 ≠ 44) → (r + 1 ≠ 5 ∧ r + 1 ≠ 58 ∧ r + 1 ≠ 60 ∧ r + 1 ≠ 61 ∧ r + 1 ≠ 62 ∧ r + 1 ≠ 63 ∧ r + 1 ≠ 64 ∧ r + 1 ≠ 65 ∧ r + 1 ≠ 73 ∧ r + 1 ≠ 67 ∧ r + 1 ≠ 68) → r + 2 ≠ 6 → RwV false s r → RwV false s' r := fun r a b d c => by
      unfold RwV at *
      simp only [hs.I (128 * r + 2) a, hs.A (r + 1) b, hs.B (r + 2) d]
      exact fun i p q => (c i p q).mk2 hs
    refine ⟨⟨?_, ⟨ρ, ?_⟩, ?_⟩, ?_, ?_, ?_, hrw _ (by decide) (by decide) (by decide) q4, hrw _ (by decide) (by decide) (by decide) q5, hrw _ (by decide) (by decide) (by decide) q6, ?_, hrw _ (by decide) (by decide) (by decide) q8, ?_, fun _ _ _ _ _ z => by cases z⟩
    · show 0 ≤ gI s' 72 0 ∧ gI s' 72 0 < 33
      rw [hs.I 72 (by decide)]
      exact r1
    · unfold Rk
      simp only [t_resumer, hs.I 3590 (by decide)]
      exact r2
    · simp only [v_hand_n, v_args_n, v_results_n, v_ended_n, hs.I 2050 (by decide), hs.I 898 (by decide), hs.I 1282 (by decide), hs.I 1666 (by decide)] at *
      exact ⟨r3.1, r3.2.1, r3.2.2.1, r3.2.2.2.1, hu'⟩
    · show Lv false s' (gI s' 74 0) 5
      rw [hs.I 74 (by decide)]
      exact q1.mk2 hs (by decide)
    · rw [eP]
      exact q2.mk2 hs (by decide)
    · intro n
      rw [e n, eP]
      exact fun a => (q3 n a).mk2 hs (by decide)
    · show Vl false s' (gI s' 64 0) (gL s' 65 0)
      rw [hs.I 64 (by decide), hs.L]
      exact q7.mk2 hs
    · show Vl false s' (gI s' 75 0) (gL s' 76 0)
      rw [hs.I 75 (by decide), hs.L]
      exact q9.mk2 hs
/-- only what is x's own changes -/
def Fx (s s' : S1) (x : Int32) : Prop := (∀ f i, gI s' f i = gI s f i) ∧ (∀ f i, gL s' f i = gL s f i) ∧ (∀ a i j, a ≠ 5 → a ≠ 62 → a ≠ 63 → a ≠ 64 → a ≠ 65 → gA s' a i j = gA s a i j) ∧ (∀ a i j, a ≠ 6 → gB s' a i j = gB s a i j) ∧
  (∀ a z, z ≠ x → gA s' a 0 z = gA s a 0 z) ∧ ∀ z, z ≠ x → gB s' 6 0 z = gB s 6 0 z
theorem Nw.mk2 {s s1 s2 : S1} {x k : Int32} (h : Nw s s1 x k) (hf : Fx s1 s2 x) (ht : f_entryTop s ≤ 300000) : Mk2 s s2 x k := by
  obtain ⟨n1, n2, n3, n4, n5, n6, n7, n8, n9, n10, n11, n12, n13, n14⟩ := h
  obtain ⟨g1, g2, g3, g4, g5, g6⟩ := hf
  have eu : f_used s2 = f_used s1 := g1 40 0
  have et : f_entryTop s2 = f_entryTop s := (g1 41 0).trans (n6 41 0 (by decide) (by decide) (by decide) (by decide) (by decide))
  refine ⟨?_, ?_, ?_, n4, ?_, fun f i a b _ c _ d _ e _ _ => (g1 f i).trans (n6 f i a b c d e), fun f i => (g2 f i).trans (n7 f i), fun a i j b c d e f g k l m _ _ => (g3 a i j b f g k l).trans (n8 a i j c d e), fun a i j b => (g4 a i j b).trans (n9 a i j), fun z => ?_, fun z hz => ⟨?_, ?_, ?_, ?_, ?_, ?_, ?_, ?_⟩, fun j _ => ?_, ?_, (g1 33 0).trans n13, (g1 42 0).trans n14, (g3 61 0 x (by decide) (by decide) (by decide) (by decide) (by decide)).trans ((n12 x).trans (if_pos rfl)), (g3 60 0 x (by decide) (by decide) (by decide) (by decide) (by decide)).trans ((n11 x).trans (if_pos rfl))⟩
  · rw [eu]
    exact n1
  · rw [eu]
    exact n2
  · rw [eu]
    exact n3
  · unfold Frl at *
    simp only [f_freed, f_existing, f_used, a_free, a_sort, g1, g3 66 _ _ (by decide) (by decide) (by decide) (by decide) (by decide), g3 58 _ _ (by decide) (by decide) (by decide) (by decide) (by decide)] at *
    exact n5
  · exact (g3 58 0 z (by decide) (by decide) (by decide) (by decide) (by decide)).trans (n10 z)
  · exact (g5 62 z hz).trans (n8 62 0 z (by decide) (by decide) (by decide))
  · exact (g5 63 z hz).trans (n8 63 0 z (by decide) (by decide) (by decide))
  · exact (g5 64 z hz).trans (n8 64 0 z (by decide) (by decide) (by decide))
  · exact (g5 65 z hz).trans (n8 65 0 z (by decide) (by decide) (by decide))
  · refine (g5 61 z hz).trans ((n12 z).trans ?_)
    rw [if_neg hz]
  · exact (g5 5 z hz).trans (n8 5 0 z (by decide) (by decide) (by decide))
  · exact (g6 z hz).trans (n9 6 0 z)
  · exact (g3 60 0 z (by decide) (by decide) (by decide) (by decide) (by decide)).trans ((n11 z).trans (if_neg hz))
  · exact (g3 73 0 j (by decide) (by decide) (by decide) (by decide) (by decide)).trans (n8 73 0 j (by decide) (by decide) (by decide))
  · rw [et]
    exact ⟨Int32.le_refl _, ht⟩
theorem Nw.str {s s1 s2 : S1} {x k : Int32} (h : Nw s s1 x k) (hf : Fx s1 s2 x) : (∀ j, gA s2 67 0 j = gA s 67 0 j) ∧ (∀ j, gA s2 68 0 j = gA s 68 0 j) ∧ gI s2 38 0 = gI s 38 0 :=
  ⟨fun j => (hf.2.2.1 67 0 j (by decide) (by decide) (by decide) (by decide) (by decide)).trans (h.2.2.2.2.2.2.2.1 67 0 j (by decide) (by decide) (by decide)), fun j => (hf.2.2.1 68 0 j (by decide) (by decide) (by decide) (by decide) (by decide)).trans (h.2.2.2.2.2.2.2.1 68 0 j (by decide) (by decide) (by decide)), (hf.1 38 0).trans (h.2.2.2.2.2.1 38 0 (by decide) (by decide) (by decide) (by decide) (by decide))⟩
/-- something of sort k was made, or it could not be -/
def Made (s : S1) (k : Int32) (E : S1 → S1 → Int32 → Prop) (v : Int32) (s' : S1) : Prop := (v = -1 ∧ Gm s' ∧ Gcx s s' ∧ Kl s s' ∧ Nm s') ∨ ∃ s0, Gm s0 ∧ Gc s s0 ∧ Kl s s0 ∧ Nm s0 ∧ Mk2 s0 s' v k ∧ Nm s' ∧ E s0 s' v ∧ Gm s' ∧ Lv false s' v k
/-- nothing of the room of entries is taken -/
def E0 (s0 s' : S1) (_ : Int32) : Prop := f_entryTop s' = f_entryTop s0
def E5 (s0 s' : S1) (x : Int32) : Prop := f_entryTop s' = f_entryTop s0 ∧ a_first s' x = 0 ∧ a_second s' x = 0 ∧ a_third s' x = 0 ∧ a_chain s' x = -1
theorem Made.of {s s0 s' : S1} {k x : Int32} {E : S1 → S1 → Int32 → Prop} (h0 : Gm s0) (hg : Gc s s0) (hl : Kl s s0) (n0 : Nm s0) (hm : Mk2 s0 s' x k) (hn : Nm s') (he : E s0 s' x) (h : Gm s') : Made s k E x s' := by
  refine Or.inr ⟨s0, h0, hg, hl, n0, hm, hn, he, h, hm.1.1, hm.1.2.1, ?_, fun z => by cases z⟩
  rw [hm.S, if_pos rfl]
theorem newVariable_ok (s : S1) (h : Gm s) (nm : Nm s) : ok M_Mo_newVariable s (Made s 8 E0) := by
  have hl := nm.2.2.2.1
  simp only [M_Mo_newVariable, M_Va_set, ok_B, ok_C, ok_R, ok_L, ok_K, ok_GI, ok_GL, ok_PI, ok_PL, ok_AI, ok_AL, ok_SI, ok_SL, ok_Pr, ok_CI, cmp_lt, cmp_le, cmp_gt, cmp_ge, cmp_eq, nar0, nar1, Sum.elim_inl, Sum.elim_inr]
  refine ok_mono (may_ok s 0 h) fun v s0 ⟨h0, hx, hkl, hv, hok⟩ => ⟨fun c => Or.inl ⟨rfl, h0, hx, hkl, nm.gcx hx⟩, fun c => ?_⟩
  have nm0 := nm.gcx hx
  obtain ⟨hg, he, hm, -⟩ := hok c
  have el : f_limit s0 = f_limit s := hg.1 32 0 (by decide) (by decide) (by decide) (by decide) (by decide) (by decide) (by decide) (by decide) (by decide)
  refine ok_mono (object_ok s0 8 ⟨by decide, by decide⟩ h0.1.2.2.2.2.2.2 h0.1.2.2.1 (Int32.lt_of_lt_of_le he (by rw [el]; exact hl))) fun x s1 hn => ?_
  have hx1 : 0 ≤ x ∧ x < 4100 := ⟨hn.1.1, Int32.lt_trans (Int32.lt_of_lt_of_le hn.1.2.1 hn.1.2.2) (by decide)⟩
  refine ⟨hx1, hx1, hx1, ?_⟩
  have e0 : (0 : Int32).toInt8.toInt32.toInt8.toInt32 = 0 := rfl
  rw [e0]
  have hf : Fx s1 (sB (sA (sA s1 62 0 x (-1)) 5 0 x 0) 6 0 x 0) x := by
    refine ⟨fun _ _ => rfl, fun _ _ => rfl, fun a i j b c _ _ _ => ?_, fun a i j b => ?_, fun a z hz => ?_, fun z hz => ?_⟩
    · simp only [gI_sI, gI_sL, gI_sA, gI_sB, gI_sAf, gI_sBf, gL_sI, gL_sL, gL_sA, gL_sB, gL_sAf, gL_sBf, gA_sI, gA_sL, gA_sA, gA_sB, gA_sAf, gA_sBf, gB_sI, gB_sL, gB_sA, gB_sB, gB_sAf, gB_sBf, Nat.reduceEqDiff, Nat.reduceMul, Nat.reduceAdd, false_and, true_and, and_true, and_false, if_true, if_false, b, c]
    · simp only [gI_sI, gI_sL, gI_sA, gI_sB, gI_sAf, gI_sBf, gL_sI, gL_sL, gL_sA, gL_sB, gL_sAf, gL_sBf, gA_sI, gA_sL, gA_sA, gA_sB, gA_sAf, gA_sBf, gB_sI, gB_sL, gB_sA, gB_sB, gB_sAf, gB_sBf, Nat.reduceEqDiff, Nat.reduceMul, Nat.reduceAdd, false_and, true_and, and_true, and_false, if_true, if_false, b]
    · simp only [gI_sI, gI_sL, gI_sA, gI_sB, gI_sAf, gI_sBf, gL_sI, gL_sL, gL_sA, gL_sB, gL_sAf, gL_sBf, gA_sI, gA_sL, gA_sA, gA_sB, gA_sAf, gA_sBf, gB_sI, gB_sL, gB_sA, gB_sB, gB_sAf, gB_sBf, Nat.reduceEqDiff, Nat.reduceMul, Nat.reduceAdd, false_and, true_and, and_true, and_false, if_true, if_false, hz]
    · simp only [gI_sI, gI_sL, gI_sA, gI_sB, gI_sAf, gI_sBf, gL_sI, gL_sL, gL_sA, gL_sB, gL_sAf, gL_sBf, gA_sI, gA_sL, gA_sA, gA_sB, gA_sAf, gA_sBf, gB_sI, gB_sL, gB_sA, gB_sB, gB_sAf, gB_sBf, Nat.reduceEqDiff, Nat.reduceMul, Nat.reduceAdd, false_and, true_and, and_true, and_false, if_true, if_false, hz]
  have hM := hn.mk2 hf h0.1.1.2.1.2
  have hS2 := h0.1.2.1.mk2 hM (by decide) (hn.str hf).1 (hn.str hf).2.1 (hn.str hf).2.2
  have eI : ∀ f, f ≠ 33 → f ≠ 34 → f ≠ 40 → f ≠ 42 → f ≠ 54 → gI (sB (sA (sA s1 62 0 x (-1)) 5 0 x 0) 6 0 x 0) f 0 = gI s0 f 0 + 0 := fun f a b c d e => ((hf.1 f 0).trans (hn.2.2.2.2.2.1 f 0 a b c d e)).trans (Int32.add_zero _).symm
  have hN2 : Nm (sB (sA (sA s1 62 0 x (-1)) 5 0 x 0) 6 0 x 0) := nm0.mk2 hM (fun e => absurd e (by decide)) hm 0 0 ⟨by decide, by decide⟩ ⟨by decide, by decide⟩ h0.1.1.2.1.1 h0.1.2.1.1.1 (eI 41 (by decide) (by decide) (by decide) (by decide) (by decide)) (eI 43 (by decide) (by decide) (by decide) (by decide) (by decide)) (eI 38 (by decide) (by decide) (by decide) (by decide) (by decide)) (eI 44 (by decide) (by decide) (by decide) (by decide) (by decide)) (by rw [Int32.add_zero]; exact nm0.1.2.2) (by rw [Int32.add_zero]; exact nm0.2.1.2.2)
  have hE : f_entryTop (sB (sA (sA s1 62 0 x (-1)) 5 0 x 0) 6 0 x 0) = f_entryTop s0 := (eI 41 (by decide) (by decide) (by decide) (by decide) (by decide)).trans (Int32.add_zero _)
  clear eI
  have r62 : a_first (sB (sA (sA s1 62 0 x (-1)) 5 0 x 0) 6 0 x 0) x = -1 := by simp only [a_sort, a_tag, a_first, a_second, a_third, a_chain, a_free, a_text, a_heads, a_ek, a_ev, a_vk, a_vv, a_follow, a_bucket, a_registers, f_used, v_variable_k, v_variable_v, v_stack_k, v_stack_v, v_row_k, v_row_v, v_start_n, v_start_k, v_start_v, t_place, t_frames, t_openCount, t_open, t_kind, t_function, t_base, t_extra, t_rowCount, p_ek, p_vk, p_ev, p_vv, p_follow, gI_sI, gI_sL, gI_sA, gI_sB, gI_sAf, gI_sBf, gL_sI, gL_sL, gL_sA, gL_sB, gL_sAf, gL_sBf, gA_sI, gA_sL, gA_sA, gA_sB, gA_sAf, gA_sBf, gB_sI, gB_sL, gB_sA, gB_sB, gB_sAf, gB_sBf, Nat.reduceEqDiff, Nat.reduceMul, Nat.reduceAdd, false_and, true_and, and_true, and_false, if_true, if_false]
  have r5 : v_variable_k (sB (sA (sA s1 62 0 x (-1)) 5 0 x 0) 6 0 x 0) x = 0 := by simp only [a_sort, a_tag, a_first, a_second, a_third, a_chain, a_free, a_text, a_heads, a_ek, a_ev, a_vk, a_vv, a_follow, a_bucket, a_registers, f_used, v_variable_k, v_variable_v, v_stack_k, v_stack_v, v_row_k, v_row_v, v_start_n, v_start_k, v_start_v, t_place, t_frames, t_openCount, t_open, t_kind, t_function, t_base, t_extra, t_rowCount, p_ek, p_vk, p_ev, p_vv, p_follow, gI_sI, gI_sL, gI_sA, gI_sB, gI_sAf, gI_sBf, gL_sI, gL_sL, gL_sA, gL_sB, gL_sAf, gL_sBf, gA_sI, gA_sL, gA_sA, gA_sB, gA_sAf, gA_sBf, gB_sI, gB_sL, gB_sA, gB_sB, gB_sAf, gB_sBf, Nat.reduceEqDiff, Nat.reduceMul, Nat.reduceAdd, false_and, true_and, and_true, and_false, if_true, if_false]
  generalize sB (sA (sA s1 62 0 x (-1)) 5 0 x 0) 6 0 x 0 = s2 at *
  have es : a_sort s2 x = 8 := by rw [hM.S, if_pos rfl]
  have no : ∀ q, q ≠ 8 → a_sort s2 x ≠ q := fun q p w => p (w.symm.trans es)
  refine Made.of h0 hg hkl nm0 hM hN2 hE (h0.mk2 hM (by decide) ⟨fun z => absurd z (no 5 (by decide)), fun z => absurd z (no 6 (by decide)), fun z => absurd z (no 7 (by decide)), fun _ => ?_⟩ ⟨fun z => absurd z (no 5 (by decide)), fun z => absurd z (no 6 (by decide)), fun z => absurd z (no 7 (by decide)), fun _ => ?_⟩ (fun _ => by rw [r62]; decide) hS2)
  · rw [r62]
    exact ⟨by decide, fun z => absurd z (by decide)⟩
  · refine ⟨fun _ => ?_, fun z => ?_⟩
    · rw [r5]
      exact Or.inl ⟨by decide, by decide⟩
    · rw [r62] at z
      exact absurd z (by decide)
theorem table_ok (s : S1) (h : Gm s) (nm : Nm s) : ok M_Mo_table s (Made s 5 E5) := by
  have hl := nm.2.2.2.1
  simp only [M_Mo_table, ok_B, ok_C, ok_R, ok_L, ok_K, ok_GI, ok_GL, ok_PI, ok_PL, ok_AI, ok_AL, ok_SI, ok_SL, ok_Pr, ok_CI, cmp_lt, cmp_le, cmp_gt, cmp_ge, cmp_eq, nar0, nar1, Sum.elim_inl, Sum.elim_inr]
  refine ok_mono (may_ok s 0 h) fun v s0 ⟨h0, hx, hkl, hv, hok⟩ => ⟨fun c => Or.inl ⟨rfl, h0, hx, hkl, nm.gcx hx⟩, fun c => ?_⟩
  have nm0 := nm.gcx hx
  obtain ⟨hg, he, hm, -⟩ := hok c
  have el : f_limit s0 = f_limit s := hg.1 32 0 (by decide) (by decide) (by decide) (by decide) (by decide) (by decide) (by decide) (by decide) (by decide)
  refine ok_mono (object_ok s0 5 ⟨by decide, by decide⟩ h0.1.2.2.2.2.2.2 h0.1.2.2.1 (Int32.lt_of_lt_of_le he (by rw [el]; exact hl))) fun x s1 hn => ?_
  have hx1 : 0 ≤ x ∧ x < 4100 := ⟨hn.1.1, Int32.lt_trans (Int32.lt_of_lt_of_le hn.1.2.1 hn.1.2.2) (by decide)⟩
  refine ⟨hx1, hx1, hx1, hx1, ?_⟩
  have hf : Fx s1 (sA (sA (sA (sA s1 62 0 x 0) 63 0 x 0) 64 0 x 0) 65 0 x (-1)) x := by
    refine ⟨fun _ _ => rfl, fun _ _ => rfl, fun a i j _ b c d e => ?_, fun a i j b => rfl, fun a z hz => ?_, fun z hz => rfl⟩
    · simp only [gI_sI, gI_sL, gI_sA, gI_sB, gI_sAf, gI_sBf, gL_sI, gL_sL, gL_sA, gL_sB, gL_sAf, gL_sBf, gA_sI, gA_sL, gA_sA, gA_sB, gA_sAf, gA_sBf, gB_sI, gB_sL, gB_sA, gB_sB, gB_sAf, gB_sBf, Nat.reduceEqDiff, Nat.reduceMul, Nat.reduceAdd, false_and, true_and, and_true, and_false, if_true, if_false, b, c, d, e]
    · simp only [gI_sI, gI_sL, gI_sA, gI_sB, gI_sAf, gI_sBf, gL_sI, gL_sL, gL_sA, gL_sB, gL_sAf, gL_sBf, gA_sI, gA_sL, gA_sA, gA_sB, gA_sAf, gA_sBf, gB_sI, gB_sL, gB_sA, gB_sB, gB_sAf, gB_sBf, Nat.reduceEqDiff, Nat.reduceMul, Nat.reduceAdd, false_and, true_and, and_true, and_false, if_true, if_false, hz]
  have hM := hn.mk2 hf h0.1.1.2.1.2
  have hS2 := h0.1.2.1.mk2 hM (by decide) (hn.str hf).1 (hn.str hf).2.1 (hn.str hf).2.2
  have eI : ∀ f, f ≠ 33 → f ≠ 34 → f ≠ 40 → f ≠ 42 → f ≠ 54 → gI (sA (sA (sA (sA s1 62 0 x 0) 63 0 x 0) 64 0 x 0) 65 0 x (-1)) f 0 = gI s0 f 0 + 0 := fun f a b c d e => ((hf.1 f 0).trans (hn.2.2.2.2.2.1 f 0 a b c d e)).trans (Int32.add_zero _).symm
  have hN2 : Nm (sA (sA (sA (sA s1 62 0 x 0) 63 0 x 0) 64 0 x 0) 65 0 x (-1)) := nm0.mk2 hM (fun e => absurd e (by decide)) hm 0 0 ⟨by decide, by decide⟩ ⟨by decide, by decide⟩ h0.1.1.2.1.1 h0.1.2.1.1.1 (eI 41 (by decide) (by decide) (by decide) (by decide) (by decide)) (eI 43 (by decide) (by decide) (by decide) (by decide) (by decide)) (eI 38 (by decide) (by decide) (by decide) (by decide) (by decide)) (eI 44 (by decide) (by decide) (by decide) (by decide) (by decide)) (by rw [Int32.add_zero]; exact nm0.1.2.2) (by rw [Int32.add_zero]; exact nm0.2.1.2.2)
  have hE : f_entryTop (sA (sA (sA (sA s1 62 0 x 0) 63 0 x 0) 64 0 x 0) 65 0 x (-1)) = f_entryTop s0 := (eI 41 (by decide) (by decide) (by decide) (by decide) (by decide)).trans (Int32.add_zero _)
  clear eI
  have r62 : a_first (sA (sA (sA (sA s1 62 0 x 0) 63 0 x 0) 64 0 x 0) 65 0 x (-1)) x = 0 := by simp only [a_sort, a_tag, a_first, a_second, a_third, a_chain, a_free, a_text, a_heads, a_ek, a_ev, a_vk, a_vv, a_follow, a_bucket, a_registers, f_used, v_variable_k, v_variable_v, v_stack_k, v_stack_v, v_row_k, v_row_v, v_start_n, v_start_k, v_start_v, t_place, t_frames, t_openCount, t_open, t_kind, t_function, t_base, t_extra, t_rowCount, p_ek, p_vk, p_ev, p_vv, p_follow, gI_sI, gI_sL, gI_sA, gI_sB, gI_sAf, gI_sBf, gL_sI, gL_sL, gL_sA, gL_sB, gL_sAf, gL_sBf, gA_sI, gA_sL, gA_sA, gA_sB, gA_sAf, gA_sBf, gB_sI, gB_sL, gB_sA, gB_sB, gB_sAf, gB_sBf, Nat.reduceEqDiff, Nat.reduceMul, Nat.reduceAdd, false_and, true_and, and_true, and_false, if_true, if_false]
  have r63 : a_second (sA (sA (sA (sA s1 62 0 x 0) 63 0 x 0) 64 0 x 0) 65 0 x (-1)) x = 0 := by simp only [a_sort, a_tag, a_first, a_second, a_third, a_chain, a_free, a_text, a_heads, a_ek, a_ev, a_vk, a_vv, a_follow, a_bucket, a_registers, f_used, v_variable_k, v_variable_v, v_stack_k, v_stack_v, v_row_k, v_row_v, v_start_n, v_start_k, v_start_v, t_place, t_frames, t_openCount, t_open, t_kind, t_function, t_base, t_extra, t_rowCount, p_ek, p_vk, p_ev, p_vv, p_follow, gI_sI, gI_sL, gI_sA, gI_sB, gI_sAf, gI_sBf, gL_sI, gL_sL, gL_sA, gL_sB, gL_sAf, gL_sBf, gA_sI, gA_sL, gA_sA, gA_sB, gA_sAf, gA_sBf, gB_sI, gB_sL, gB_sA, gB_sB, gB_sAf, gB_sBf, Nat.reduceEqDiff, Nat.reduceMul, Nat.reduceAdd, false_and, true_and, and_true, and_false, if_true, if_false]
  have r64 : a_third (sA (sA (sA (sA s1 62 0 x 0) 63 0 x 0) 64 0 x 0) 65 0 x (-1)) x = 0 := by simp only [a_sort, a_tag, a_first, a_second, a_third, a_chain, a_free, a_text, a_heads, a_ek, a_ev, a_vk, a_vv, a_follow, a_bucket, a_registers, f_used, v_variable_k, v_variable_v, v_stack_k, v_stack_v, v_row_k, v_row_v, v_start_n, v_start_k, v_start_v, t_place, t_frames, t_openCount, t_open, t_kind, t_function, t_base, t_extra, t_rowCount, p_ek, p_vk, p_ev, p_vv, p_follow, gI_sI, gI_sL, gI_sA, gI_sB, gI_sAf, gI_sBf, gL_sI, gL_sL, gL_sA, gL_sB, gL_sAf, gL_sBf, gA_sI, gA_sL, gA_sA, gA_sB, gA_sAf, gA_sBf, gB_sI, gB_sL, gB_sA, gB_sB, gB_sAf, gB_sBf, Nat.reduceEqDiff, Nat.reduceMul, Nat.reduceAdd, false_and, true_and, and_true, and_false, if_true, if_false]
  have r65 : a_chain (sA (sA (sA (sA s1 62 0 x 0) 63 0 x 0) 64 0 x 0) 65 0 x (-1)) x = -1 := by simp only [a_sort, a_tag, a_first, a_second, a_third, a_chain, a_free, a_text, a_heads, a_ek, a_ev, a_vk, a_vv, a_follow, a_bucket, a_registers, f_used, v_variable_k, v_variable_v, v_stack_k, v_stack_v, v_row_k, v_row_v, v_start_n, v_start_k, v_start_v, t_place, t_frames, t_openCount, t_open, t_kind, t_function, t_base, t_extra, t_rowCount, p_ek, p_vk, p_ev, p_vv, p_follow, gI_sI, gI_sL, gI_sA, gI_sB, gI_sAf, gI_sBf, gL_sI, gL_sL, gL_sA, gL_sB, gL_sAf, gL_sBf, gA_sI, gA_sL, gA_sA, gA_sB, gA_sAf, gA_sBf, gB_sI, gB_sL, gB_sA, gB_sB, gB_sAf, gB_sBf, Nat.reduceEqDiff, Nat.reduceMul, Nat.reduceAdd, false_and, true_and, and_true, and_false, if_true, if_false]
  generalize sA (sA (sA (sA s1 62 0 x 0) 63 0 x 0) 64 0 x 0) 65 0 x (-1) = s2 at *
  have es : a_sort s2 x = 5 := by rw [hM.S, if_pos rfl]
  have no : ∀ q, q ≠ 5 → a_sort s2 x ≠ q := fun q p w => p (w.symm.trans es)
  refine Made.of h0 hg hkl nm0 hM hN2 ⟨hE, r62, r63, r64, r65⟩ (h0.mk2 hM (by decide) ⟨fun _ => ?_, fun z => absurd z (no 6 (by decide)), fun z => absurd z (no 7 (by decide)), fun z => absurd z (no 8 (by decide))⟩ ⟨fun _ => ?_, fun z => absurd z (no 6 (by decide)), fun z => absurd z (no 7 (by decide)), fun z => absurd z (no 8 (by decide))⟩ (fun z => absurd z (by decide)) hS2)
  · rw [r62, r63, r64]
    have := hM.2.2.2.2.2.2.2.2.2.2.2.2.1.1
    have h2 := h0.1.1.2.1.1
    exact ⟨by decide, by decide, by decide, by decide, by decide, Int32.le_trans h2 this⟩
  · refine ⟨Or.inl (by rw [r65]; decide), fun q a b => ?_⟩
    rw [r62] at a b
    rw [r64] at b
    exact absurd (Int32.lt_of_le_of_lt a b) (by decide)
