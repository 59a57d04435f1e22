/-! A collection marks all that it must. -/
/-- a value, or a variable (what is in hand may be one) -/
def Wl (m : Bool) (s : S1) (k : Int32) (v : Int64) : Prop := Vl m s k v ∨ (k = 8 ∧ 0 ≤ v ∧ v < 4100 ∧ Lv m s v.toInt32 8)
theorem Wl.cr {m : Bool} {s s' : S1} {k : Int32} {v : Int64} (h : Wl m s k v) (hs : Cr m s s') : Wl m s' k v := h.imp (fun z => z.cr hs) fun z => ⟨z.1, z.2.1, z.2.2.1, z.2.2.2.cr hs⟩
theorem Wl.lo {s : S1} {k : Int32} {v : Int64} (h : Wl false s k v) : Lo s k v := h.elim (fun z => z.lo) fun z => Or.inr (Or.inr z.2.2.2.2.1)
theorem Wl.mk {s s' : S1} {k : Int32} {v : Int64} (h : Wl false s k v) (hs : MStep s s') (hm : Mk s' k v) : Wl true s' k v := by
  rcases h with h | ⟨h1, h2, h3, h4⟩
  · exact Or.inl (h.mk hs hm)
  · refine Or.inr ⟨h1, h2, h3, h4.mk hs ?_⟩
    have := h4.1
    unfold Mk at hm
    clear h4 hs
    grind
theorem markW_ok (s : S1) (r : Nat) (u a n : Int32) (h : Grey s) (hl1 : lnI (r + 1) ≤ 20001) (hl2 : lnI (r + 1) = lnI (r + 2)) (ha : 0 ≤ a ∧ a ≤ 20001) (hn : 0 ≤ n ∧ n ≤ 20001) (hl : a + n ≤ lnI (r + 1))
    (hne : r + 1 ≠ 59 ∧ r + 1 ≠ 75) (hv : ∀ i, a ≤ i → i < a + n → Wl false s (gA s (r + 1) u i) (gB s (r + 2) u i)) :
    ok (M_Mo_markRow r u a n) s (fun _ s' => Grey s' ∧ MStep s s' ∧ ∀ i, a ≤ i → i < a + n → Wl true s' (gA s (r + 1) u i) (gB s (r + 2) u i)) :=
  ok_mono (markRow_ok s r u a n h hl1 hl2 ha hn hl hne fun i x y => (hv i x y).lo) fun _ s' ⟨h1, h2, h3⟩ => ⟨h1, h2, fun i x y => (hv i x y).mk h2 (h3 i x y)⟩
def RwV (m : Bool) (s : S1) (r : Nat) : Prop := ∀ i, 0 ≤ i → i < 0 + gI s (128 * r + 2) 0 → Wl m s (gA s (r + 1) 0 i) (gB s (r + 2) 0 i)
def RtV (m : Bool) (s : S1) : Prop := Lv m s (f_globals s) 5 ∧ Lv m s (t_place s 0) 7 ∧ (∀ n, 0 ≤ chN s n → Lv m s (t_place s (chN s n)) 7) ∧ RwV m s 16 ∧ RwV m s 7 ∧ RwV m s 10 ∧ Vl m s (f_errorKind s) (f_errorValue s) ∧ RwV m s 13 ∧ Vl m s (f_calledKind s) (f_called s) ∧
  ∀ x, 0 ≤ x → x < f_used s → a_sort s x ≠ 0 → a_fixed s x ≠ 0 → m = true → a_marked s x ≠ 0
def RtS (s : S1) : Prop := (0 ≤ f_current s ∧ f_current s < 33) ∧ (∃ ρ, Rk ρ s) ∧ (0 ≤ v_hand_n s ∧ v_hand_n s ≤ 64) ∧ (0 ≤ v_args_n s ∧ v_args_n s ≤ 400) ∧ (0 ≤ v_results_n s ∧ v_results_n s ≤ 400) ∧ (0 ≤ v_ended_n s ∧ v_ended_n s ≤ 400) ∧ 0 ≤ f_used s ∧ f_used s ≤ 4000
theorem RwV.cr {m : Bool} {s s' : S1} {r : Nat} (h : RwV m s r) (hs : Cr m s s') (hr : (128 * r + 2 ≠ 35 ∧ 128 * r + 2 ≠ 66 ∧ 128 * r + 2 ≠ 69) ∧ r + 1 ≠ 59 ∧ r + 1 ≠ 75) : RwV m s' r := by
  unfold RwV at *
  simp only [hs.I (128 * r + 2) hr.1, hs.A (r + 1) hr.2, hs.B (r + 2)]
  exact fun i a b => (h i a b).cr hs
theorem RtV.cr {s s' : S1} (h : RtV false s) (hs : Cr false s s') : RtV false s' := by
  obtain ⟨h1, h2, h3, h4, h5, h6, h7, h8, h9, h10⟩ := h
  have e := chN_cr hs
  refine ⟨?_, ?_, ?_, h4.cr hs (by decide), h5.cr hs (by decide), h6.cr hs (by decide), ?_, h8.cr hs (by decide), ?_, fun _ _ _ _ _ z => by cases z⟩
  · show Lv false s' (gI s' 74 0) 5
    rw [hs.I 74 (by decide)]
    exact h1.cr hs
  · show Lv false s' (gI s' 3584 0) 7
    rw [hs.I 3584 (by decide)]
    exact h2.cr hs
  · intro n
    rw [e n]
    show 0 ≤ chN s n → Lv false s' (gI s' 3584 (chN s n)) 7
    rw [hs.I 3584 (by decide)]
    exact fun a => (h3 n a).cr hs
  · show Vl false s' (gI s' 64 0) (gL s' 65 0)
    rw [hs.I 64 (by decide), hs.L 65 (by decide)]
    exact h7.cr hs
  · show Vl false s' (gI s' 75 0) (gL s' 76 0)
    rw [hs.I 75 (by decide), hs.L 76 (by decide)]
    exact h9.cr hs
theorem RtS.cr {s s' : S1} (h : RtS s) (hs : Cr false s s') : RtS s' := by
  obtain ⟨h1, ⟨ρ, h2⟩, h3⟩ := h
  unfold RtS
  refine ⟨?_, ⟨ρ, ?_⟩, ?_⟩
  · show 0 ≤ gI s' 72 0 ∧ gI s' 72 0 < 33
    rw [hs.I 72 (by decide)]
    exact h1
  · unfold Rk
    simp only [t_resumer, hs.I 3590 (by decide)]
    exact h2
  · simp only [v_hand_n, v_args_n, v_results_n, v_ended_n, f_used, hs.I 2050 (by decide), hs.I 898 (by decide), hs.I 1282 (by decide), hs.I 1666 (by decide), hs.I 40 (by decide)] at *
    exact h3
/-- one more thing is marked on the way: what was, stays -/
def At (s s1 : S1) : Prop := Grey s1 ∧ MStep s s1 ∧ Bk s1
theorem At.next {s s1 s2 : S1} (h : At s s1) (hg : 0 ≤ f_greys s) (h2 : Grey s2) (h3 : MStep s1 s2) : At s s2 := ⟨h2, h.2.1.trans h3 hg, h.2.2.step h.1 h3⟩
/-- before the sweep -/
def Mkd (s s' : S1) : Prop := Cr false s s' ∧ Hv s' ∧ RtS s' ∧ RtV true s' ∧ ∀ x, 0 ≤ x → x < f_used s' → a_marked s' x ≠ 0 → PcV true s' x
theorem row_ok {s s1 : S1} (r : Nat) (ha : At s s1) (hg0 : 0 ≤ f_greys s) (hr : RwV false s r) (hn : 0 ≤ gI s (128 * r + 2) 0 ∧ gI s (128 * r + 2) 0 ≤ 400 ∧ gI s (128 * r + 2) 0 ≤ lnI (r + 1)) (hl1 : lnI (r + 1) ≤ 20001) (hl2 : lnI (r + 1) = lnI (r + 2))
    (hi : (128 * r + 2 ≠ 35 ∧ 128 * r + 2 ≠ 66 ∧ 128 * r + 2 ≠ 69) ∧ r + 1 ≠ 59 ∧ r + 1 ≠ 75) (hi2 : 128 * r + 2 ≠ 66 ∧ 128 * r + 2 ≠ 69) : ok (M_Mo_markRow r 0 0 (gI s1 (128 * r + 2) 0)) s1 (fun _ s2 => At s s2 ∧ MStep s1 s2 ∧ RwV true s2 r) := by
  have hs := ha.2.1
  have hr1 := hr.cr (hs.cr false) hi
  have en : gI s1 (128 * r + 2) 0 = gI s (128 * r + 2) 0 := hs.I _ hi2 0
  refine ok_mono (markW_ok s1 r 0 0 _ ha.1 hl1 hl2 ⟨by decide, by decide⟩ ?_ ?_ hi.2 hr1) fun _ s2 ⟨hg2, hs2, hk2⟩ => ⟨ha.next hg0 hg2 hs2, hs2, ?_⟩
  · rw [en]
    clear hr hr1 hs ha
    grind
  · rw [en]
    clear hr hr1 hs ha
    grind
  · intro i a b
    rw [hs2.I _ hi2] at b
    rw [hs2.A _ hi.2, hs2.B]
    exact hk2 i a b
theorem one_ok {s s1 : S1} {k : Int32} {v : Int64} (ha : At s s1) (hg0 : 0 ≤ f_greys s) (hv : Vl false s k v) : ok (M_Mo_mark k v) s1 (fun _ s2 => At s s2 ∧ MStep s1 s2 ∧ Vl true s2 k v) :=
  ok_mono (mark_ok s1 k v ha.1 (hv.step ha.2.1).lo) fun _ _ ⟨hg2, hs2, hk2⟩ => ⟨ha.next hg0 hg2 hs2, hs2, hv.mk (ha.2.1.trans hs2 hg0) hk2⟩
theorem pl_ok {s s1 : S1} {x k : Int32} (ha : At s s1) (hg0 : 0 ≤ f_greys s) (hv : Lv false s x k) : ok (M_Mo_place x) s1 (fun _ s2 => At s s2 ∧ MStep s1 s2 ∧ Lv true s2 x k) :=
  ok_mono (place_ok s1 x ha.1 (hv.step ha.2.1).2.1) fun _ _ ⟨hg2, hs2, hk2⟩ => ⟨ha.next hg0 hg2 hs2, hs2, hv.mk (ha.2.1.trans hs2 hg0) (hk2 hv.1)⟩
theorem collection_ok (s : S1) (hh : Hv s) (hr : RtS s) (hv : RtV false s) {Q : Unit → S1 → Prop} (hsw : ∀ s', Mkd s s' → ok M_Mo_sweep s' Q) : ok M_Mo_collection s Q := by
  simp only [M_Mo_collection, ok_B, ok_C, ok_R, ok_L, ok_K, ok_GI, ok_GL, ok_PI, ok_PL, ok_AI, ok_AL, ok_SI, ok_SL, ok_Pr, ok_CI, cmp_lt, cmp_le, cmp_gt, cmp_ge, cmp_eq, nar0, nar1, Sum.elim_inl, Sum.elim_inr]
  have hu : 0 ≤ f_used s ∧ f_used s ≤ 4000 := hr.2.2.2.2.2.2
  have hu' : gI (sI s 35 0 (gI s 35 0 + 1)) 40 0 = f_used s := by simp only [gI_sI, gI_sL, gI_sA, gI_sB, gI_sAf, gI_sBf, gL_sI, gL_sL, gL_sA, gL_sB, gL_sAf, gL_sBf, gA_sI, gA_sL, gA_sA, gA_sB, gA_sAf, gA_sBf, gB_sI, gB_sL, gB_sA, gB_sB, gB_sAf, gB_sBf, Nat.reduceEqDiff, Nat.reduceMul, Nat.reduceAdd, false_and, true_and, and_true, and_false, if_true, if_false]
  rw [hu']
  refine ok_mono (fillB_ok _ 59 0 0 (f_used s) 0 ⟨fun z => absurd z (by decide), by decide, by decide⟩ ⟨by decide, hu.1, ?_⟩ (by decide)) fun _ s1 hf => ?_
  · show f_used s ≤ (4100 : Int32)
    clear hh hr hv
    grind
  rw [nar0] at hf
  obtain ⟨f1, f2, f3, f4⟩ := hf
  -- the marking's beginning
  have hc : Cr false s (sI s1 69 0 0) := by
    refine ⟨⟨fun f i a b c => ?_, fun f i a => ?_, fun a i j b c => ?_, fun a i j => ?_⟩, fun z => by cases z⟩
    · rw [gI_sI, if_neg (fun z => c z.1), f1, gI_sI, if_neg (fun z => a z.1)]
    · rw [gL_sI, f2, gL_sI]
    · rw [gA_sI, f4, if_neg (fun z => b z.1), gA_sI]
    · rw [gB_sI, f3, gB_sI]
  have hm0 : ∀ x, 0 ≤ x → x < f_used s → a_marked (sI s1 69 0 0) x = 0 := fun x a b => by
    show gA (sI s1 69 0 0) 59 0 x = 0
    rw [gA_sI, f4, if_pos ⟨rfl, rfl, a, b⟩]
  have hg0 : f_greys (sI s1 69 0 0) = 0 := by simp only [f_greys, gI_sI, gI_sL, gI_sA, gI_sB, gI_sAf, gI_sBf, gL_sI, gL_sL, gL_sA, gL_sB, gL_sAf, gL_sBf, gA_sI, gA_sL, gA_sA, gA_sB, gA_sAf, gA_sBf, gB_sI, gB_sL, gB_sA, gB_sB, gB_sAf, gB_sBf, Nat.reduceEqDiff, Nat.reduceMul, Nat.reduceAdd, false_and, true_and, and_true, and_false, if_true, if_false]
  clear f1 f2 f3 f4
  generalize sI s1 69 0 0 = s2 at *
  have hh2 := hh.cr hc
  have hr2 := hr.cr hc
  have hv2 := hv.cr hc
  have hu2 : f_used s2 = f_used s := hc.I 40 (by decide) 0
  have hG : Grey s2 := by
    unfold Grey
    rw [hg0, hu2]
    refine ⟨⟨hu.1, ?_⟩, by decide, fun i a b => ?_, fun i j a b c => ?_⟩
    · clear hh hr hv hh2 hr2 hv2 hc hm0
      grind
    · clear hh hr hv hh2 hr2 hv2 hc hm0
      grind
    · clear hh hr hv hh2 hr2 hv2 hc hm0
      grind
  have hB : Bk s2 := fun x a b c => absurd (hm0 x a (by rw [← hu2]; exact b)) c
  have hz : 0 ≤ f_greys s2 := by rw [hg0]; decide
  have hA : At s2 s2 := ⟨hG, MStep.refl s2, hB⟩
  obtain ⟨r1, ⟨ρ, r2⟩, r3, r4, r5, r6, r7⟩ := hr2
  obtain ⟨v1, v2, v3, v4, v5, v6, v7, v8, v9, v10⟩ := hv2
  -- what is fixed
  refine ok_mono (fixed_ok s2 hG) fun _ s3 ⟨hg3, hs3, hk3⟩ => ?_
  have a3 := hA.next hz hg3 hs3
  have e74 : gI s3 74 0 = f_globals s2 := a3.2.1.I 74 (by decide) 0
  rw [e74]
  refine ok_mono (pl_ok a3 hz v1) fun _ s4 ⟨a4, m4, k4⟩ => ⟨⟨by decide, by decide⟩, ?_⟩
  have e84 : gI s4 3584 0 = t_place s2 0 := a4.2.1.I 3584 (by decide) 0
  rw [e84]
  refine ok_mono (pl_ok a4 hz v2) fun _ s5 ⟨a5, m5, k5⟩ => ?_
  have e72 : gI s5 72 0 = f_current s2 := a5.2.1.I 72 (by decide) 0
  rw [e72]
  have ec : gI s5 3584 (f_current s2) = t_place s2 (f_current s2) := a5.2.1.I 3584 (by decide) _
  rw [ec]
  have vc : Lv false s2 (t_place s2 (f_current s2)) 7 := v3 0 r1.1
  refine ⟨r1, ok_mono (pl_ok a5 hz vc) fun _ s6 ⟨a6, m6, k6⟩ => ?_⟩
  have e72' : gI s6 72 0 = f_current s6 := rfl
  have e726 : f_current s6 = f_current s2 := a6.2.1.I 72 (by decide) 0
  rw [e72']
  have c6 := a6.2.1.cr false
  have rk6 : Rk ρ s6 := by
    unfold Rk
    simp only [t_resumer, c6.I 3590 (by decide)]
    exact r2
  have ch6 := chN_cr c6
  refine ok_mono (resumers_ok s6 ρ rk6 (by rw [e726]; exact r1) a6.1 ?_) fun _ s7 ⟨hg7, m7, k7⟩ => ?_
  · intro n
    rw [ch6 n]
    show 0 ≤ chN s2 n → Lv false s6 (gI s6 3584 (chN s2 n)) 7
    rw [c6.I 3584 (by decide)]
    exact fun a => (v3 n a).cr c6
  have a7 := a6.next hz hg7 m7
  have b64 : gI s2 (128 * 16 + 2) 0 ≤ 400 := by
    have : gI s2 (128 * 16 + 2) 0 ≤ 64 := r3.2
    exact Int32.le_trans this (by decide)
  refine ok_mono (row_ok 16 a7 hz v4 ⟨r3.1, b64, r3.2⟩ (by decide) (by decide) (by decide) (by decide)) fun _ s8 ⟨a8, m8, k8⟩ => ?_
  refine ok_mono (row_ok 7 a8 hz v5 ⟨r4.1, r4.2, r4.2⟩ (by decide) (by decide) (by decide) (by decide)) fun _ s9 ⟨a9, m9, k9⟩ => ?_
  refine ok_mono (row_ok 10 a9 hz v6 ⟨r5.1, r5.2, r5.2⟩ (by decide) (by decide) (by decide) (by decide)) fun _ s10 ⟨a10, m10, k10⟩ => ?_
  have e64 : gI s10 64 0 = f_errorKind s2 := a10.2.1.I 64 (by decide) 0
  have e65 : gL s10 65 0 = f_errorValue s2 := (a10.2.1.cr false).L 65 (by decide) 0
  rw [e64, e65]
  refine ok_mono (one_ok a10 hz v7) fun _ s11 ⟨a11, m11, k11⟩ => ?_
  refine ok_mono (row_ok 13 a11 hz v8 ⟨r6.1, r6.2, r6.2⟩ (by decide) (by decide) (by decide) (by decide)) fun _ s12 ⟨a12, m12, k12⟩ => ?_
  have e75 : gI s12 75 0 = f_calledKind s2 := a12.2.1.I 75 (by decide) 0
  have e76 : gL s12 76 0 = f_called s2 := (a12.2.1.cr false).L 76 (by decide) 0
  rw [e75, e76]
  refine ok_mono (one_ok a12 hz v9) fun _ s13 ⟨a13, m13, k13⟩ => ?_
  refine ok_mono (mark218_ok s13 a13.1 (hh2.cr (a13.2.1.cr false)) a13.2.2) fun _ s14 ⟨hg14, z14, m14, b14⟩ => ?_
  apply hsw
  -- all steps from here on to the end keep the marks
  have q13 := m14
  have q12 := (m13.cr true).trans q13
  have q11 := (m12.cr true).trans q12
  have q10 := (m11.cr true).trans q11
  have q9 := (m10.cr true).trans q10
  have q8 := (m9.cr true).trans q9
  have q7 := (m8.cr true).trans q8
  have q6 := (m7.cr true).trans q7
  have q5 := (m6.cr true).trans q6
  have q4 := (m5.cr true).trans q5
  have q3 := (m4.cr true).trans q4
  have q2 := (hs3.cr true).trans q3
  have c2 := hc.trans q2.low
  refine ⟨c2, hh.cr c2, hr.cr c2, ?_, ?_⟩
  · have e := chN_cr q2.low
    refine ⟨?_, ?_, ?_, k8.cr q8 (by decide), k9.cr q9 (by decide), k10.cr q10 (by decide), ?_, k12.cr q12 (by decide), ?_, ?_⟩
    · show Lv true s14 (gI s14 74 0) 5
      rw [q2.I 74 (by decide)]
      exact k4.cr q4
    · show Lv true s14 (gI s14 3584 0) 7
      rw [q2.I 3584 (by decide)]
      exact k5.cr q5
    · intro n
      rw [e n]
      show 0 ≤ chN s2 n → Lv true s14 (gI s14 3584 (chN s2 n)) 7
      rw [q2.I 3584 (by decide)]
      intro a
      cases n with
      | zero => exact k6.cr q6
      | succ n =>
        have := k7 n (by rw [ch6]; exact a)
        rw [ch6] at this
        have t : t_place s6 (chN s2 (n + 1)) = t_place s2 (chN s2 (n + 1)) := c6.I 3584 (by decide) _
        rw [t] at this
        exact this.cr q7
    · show Vl true s14 (gI s14 64 0) (gL s14 65 0)
      rw [q2.I 64 (by decide), q2.L 65 (by decide)]
      exact k11.cr q11
    · show Vl true s14 (gI s14 75 0) (gL s14 76 0)
      rw [q2.I 75 (by decide), q2.L 76 (by decide)]
      exact k13.cr q13
    · intro x a b c d _
      refine q3.2 rfl x (hk3 x a ?_ ?_ ?_)
      · show x < gI s2 40 0
        rw [← q2.I 40 (by decide)]
        exact b
      · show gA s2 58 0 x ≠ 0
        rw [← q2.A 58 (by decide)]
        exact c
      · show gA s2 60 0 x ≠ 0
        rw [← q2.A 60 (by decide)]
        exact d
  · intro x a b c
    rcases b14 x a b c with ⟨i, d, e, f⟩ | d
    · rw [z14] at e
      exact absurd (Int32.lt_of_le_of_lt d e) (by decide)
    · exact d
