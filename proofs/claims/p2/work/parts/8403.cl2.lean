/-! The loop that closes, and leaving frames. -/
def Cq (s s1 : S1) (t fr to k : Int32) : Prop := ((∀ f i, f ≠ 66 → gI s1 f i = gI s f i) ∧ (∀ f i, f ≠ 67 → gL s1 f i = gL s f i) ∧ (∀ a i j, a ≠ 5 → a ≠ 62 → (a ≠ 29 ∨ i ≠ t) → gA s1 a i j = gA s a i j) ∧ ∀ a i j, a ≠ 6 → gB s1 a i j = gB s a i j) ∧
  (∀ j, k ≤ j → j < t_openCount s t → t_open s1 t j = t_open s t j) ∧ (∀ j, 0 ≤ j → j < to → ∃ i, 0 ≤ i ∧ i < k ∧ t_open s1 t j = t_open s t i ∧ a_second s (t_open s t i) < fr) ∧ (∀ i, 0 ≤ i → i < k → a_second s (t_open s t i) < fr → ∃ j, 0 ≤ j ∧ j < to ∧ t_open s1 t j = t_open s t i) ∧
  (∀ i j, 0 ≤ i → i < j → j < to → t_open s1 t i ≠ t_open s1 t j) ∧ (∀ z, (∀ j, 0 ≤ j → j < k → fr ≤ a_second s (t_open s t j) → z ≠ t_open s t j) → a_first s1 z = a_first s z ∧ v_variable_k s1 z = v_variable_k s z ∧ v_variable_v s1 z = v_variable_v s z) ∧
  ∀ j, 0 ≤ j → j < k → fr ≤ a_second s (t_open s t j) → a_first s1 (t_open s t j) = -1 ∧ Vl false s (v_variable_k s1 (t_open s t j)) (v_variable_v s1 (t_open s t j))
theorem step_num {k n : Int32} (h0 : 0 ≤ k) (h : k < n) (hn : n ≤ 4100) : 0 ≤ k + 1 ∧ k + 1 ≤ n ∧ (∀ j, k + 1 ≤ j → k ≤ j ∧ j ≠ k) ∧ (∀ j, j < k + 1 → j = k ∨ j < k) ∧ (∀ j, j < k → j < k + 1) ∧ (n - (k + 1)).toNatClampNeg < (n - k).toNatClampNeg := by
  refine ⟨by grind, by grind, fun j a => ⟨by grind, by grind⟩, fun j a => by grind, fun j a => by grind, clamp_lt (by grind) (by grind)⟩
theorem q_close_ok (s : S1) (t fr : Int32) (h : GG s) (ht : 0 ≤ t ∧ t < 33) (hp : 0 ≤ t_place s t) : ok (M_Mo_close t fr) s (fun _ s' => Cw s s' t) := by
  obtain ⟨o1, o2⟩ := h.1.1.2.2.2.1 t ht.1 ht.2 hp
  obtain ⟨w1, w2⟩ := h.1.1.2.2.2.2.2.1 t ht.1 ht.2 hp
  have tsh := (h.1.1.1.2.2 _ w1.1 w1.2.1).1.2.2.1 w1.2.2.1
  rw [w2] at tsh
  have hoc := tsh.2.2.2.2.2.1
  have hu := h.used
  have dis : ∀ i j, 0 ≤ i → i < t_openCount s t → 0 ≤ j → j < t_openCount s t → i ≠ j → t_open s t i ≠ t_open s t j := fun i j a b c d e => by
    by_cases g : i < j
    · exact o2 i j a g d
    · have g' : j < i := Int32.lt_of_le_of_ne (Int32.not_lt.mp g) (fun q => e q.symm)
      exact fun q => o2 j i c g' b q.symm
  simp only [M_Mo_close, ok_B, ok_C, ok_R, ok_L, ok_K, ok_GI, ok_GL, ok_PI, ok_PL, ok_AI, ok_AL, ok_SI, ok_SL, ok_Pr, ok_CI, cmp_lt, cmp_le, cmp_gt, cmp_ge, cmp_eq, nar0, nar1, Sum.elim_inl, Sum.elim_inr]
  refine ok_mono (ok_W (Q := fun y s' => y.1 = t ∧ (0 ≤ y.2 ∧ y.2 ≤ t_openCount s t) ∧ Cq s s' t fr y.2 (t_openCount s t)) (fun x s' => (x.1 = t ∧ x.2.1 = fr) ∧ (0 ≤ x.2.2.1 ∧ x.2.2.1 ≤ x.2.2.2) ∧ x.2.2.2 ≤ t_openCount s t ∧ Cq s s' t fr x.2.2.1 x.2.2.2) (fun x _ => (t_openCount s t - x.2.2.2).toNatClampNeg) ?_ _ _ ⟨⟨rfl, rfl⟩, ⟨(show (0 : Int32) ≤ 0 by decide), (show (0 : Int32) ≤ 0 by decide)⟩, hoc.1, ⟨fun _ _ _ => rfl, fun _ _ _ => rfl, fun _ _ _ _ _ _ => rfl, fun _ _ _ _ => rfl⟩, fun _ _ _ => rfl, fun j a b => absurd (Int32.lt_of_le_of_lt a b) Int32.lt_irrefl, fun j a b => absurd (Int32.lt_of_le_of_lt a b) Int32.lt_irrefl, fun i j a b c => absurd (Int32.lt_of_le_of_lt a (Int32.lt_trans b c)) Int32.lt_irrefl, fun _ _ => ⟨rfl, rfl, rfl⟩, fun j a b => absurd (Int32.lt_of_le_of_lt a b) Int32.lt_irrefl⟩) ?_
  · rintro ⟨t', fr', to, k⟩ s1 ⟨⟨e1, e2⟩, ⟨to0, tok⟩, kn, cq⟩
    dsimp only at e1 e2 to0 tok kn cq
    subst e1 e2
    have cq0 := cq
    obtain ⟨⟨g1, g2, g3, g4⟩, c1, c2, c3, c4, c5, c6⟩ := cq
    have eo : gI s1 3587 t' = t_openCount s t' := g1 3587 t' (by decide)
    simp only [M_Mo_close_L5, M_Mo_close_j54, ok_B, ok_C, ok_R, ok_L, ok_K, ok_GI, ok_GL, ok_PI, ok_PL, ok_AI, ok_AL, ok_SI, ok_SL, ok_Pr, ok_CI, cmp_lt, cmp_le, cmp_gt, cmp_ge, cmp_eq, nar0, nar1, Sum.elim_inl, Sum.elim_inr]
    rw [eo]
    refine ⟨fun c => ?_, fun c => ?_⟩
    · have ek := Int32.le_antisymm kn c
      refine ⟨by trivial, ⟨to0, Int32.le_trans tok kn⟩, ?_⟩
      rw [← ek]
      exact cq0
    have hk := Int32.not_le.mp c
    have k0 := Int32.le_trans to0 tok
    obtain ⟨n1, n2, n3, n4, n5, n6⟩ := step_num k0 hk hoc.2
    have kb : 0 ≤ k ∧ k < 4100 := ⟨k0, Int32.lt_of_lt_of_le hk hoc.2⟩
    have ek : gA s1 29 t' k = t_open s t' k := c1 k (Int32.le_refl k) hk
    rw [ek]
    have l := (o1 k k0 hk).1
    have lf := (o1 k k0 hk).2
    have xb : 0 ≤ t_open s t' k ∧ t_open s t' k < 4100 := ⟨l.1, Int32.lt_trans (Int32.lt_of_lt_of_le l.2.1 hu.2) (by decide)⟩
    have e63 : gA s1 63 0 (t_open s t' k) = a_second s (t_open s t' k) := g3 63 0 _ (by decide) (by decide) (Or.inl (by decide))
    rw [e63]
    have tb : 0 ≤ to ∧ to < 4100 := ⟨to0, Int32.lt_of_le_of_lt tok kb.2⟩
    have tn := step_num to0 (Int32.lt_of_le_of_lt tok hk) hoc.2
    have tk1 : to + 1 ≤ k + 1 ∧ to ≤ k + 1 := by
      clear g1 g2 g3 g4 c1 c2 c3 c4 c5 c6 cq0 o1 o2 dis h w1 w2 tsh n3 n4 n5 tn l lf
      exact ⟨by grind, by grind⟩
    refine ⟨kb, xb, fun c => ⟨tb, ⟨⟨by trivial, by trivial⟩, ⟨tn.1, tk1.1⟩, n2, ⟨g1, g2, fun a i j a1 a2 a3 => ?_, g4⟩, fun j a b => ?_, fun j a b => ?_, fun i a b d => ?_, fun i j a b d => ?_, fun z hz => ?_, fun j a b d => ?_⟩, n6⟩, fun c => ?_⟩
    · rw [gA_sA, if_neg]
      · exact g3 a i j a1 a2 a3
      · rintro ⟨z1, z2, -⟩
        rcases a3 with q | q
        · exact q z1
        · exact q z2
    · show gA (sA s1 29 t' to _) 29 t' j = _
      rw [gA_sA, if_neg]
      · exact c1 j (n3 j a).1 b
      · rintro ⟨-, -, z3⟩
        rw [z3] at a
        exact absurd (Int32.lt_of_lt_of_le (Int32.lt_of_le_of_ne (n3 to a).1 (fun q => (n3 to a).2 q.symm)) tok) Int32.lt_irrefl
    · show ∃ i, 0 ≤ i ∧ i < k + 1 ∧ gA (sA s1 29 t' to _) 29 t' j = _ ∧ _
      rw [gA_sA]
      rcases tn.2.2.2.1 j b with e | e
      · rw [if_pos ⟨rfl, rfl, e⟩]
        refine ⟨k, k0, ?_, rfl, c⟩
        clear g1 g2 g3 g4 c1 c2 c3 c4 c5 c6 cq0 o1 o2 dis h w1 w2 tsh n3 n4 n5 tn l lf
        grind
      · rw [if_neg (fun z => absurd (by rw [z.2.2] at e; exact e) Int32.lt_irrefl)]
        obtain ⟨i, i1, i2, i3, i4⟩ := c2 j a e
        exact ⟨i, i1, n5 i i2, i3, i4⟩
    · rcases n4 i b with e | e
      · subst e
        refine ⟨to, to0, ?_, ?_⟩
        · clear g1 g2 g3 g4 c1 c2 c3 c4 c5 c6 cq0 o1 o2 dis h w1 w2 tsh n3 n4 n5 tn l lf
          grind
        · show gA (sA s1 29 t' to _) 29 t' to = _
          rw [gA_sA, if_pos ⟨rfl, rfl, rfl⟩]
      · obtain ⟨j, j1, j2, j3⟩ := c3 i a e d
        refine ⟨j, j1, tn.2.2.2.2.1 j j2, ?_⟩
        show gA (sA s1 29 t' to _) 29 t' j = _
        rw [gA_sA, if_neg (fun z => absurd (by rw [z.2.2] at j2; exact j2) Int32.lt_irrefl)]
        exact j3
    · show gA (sA s1 29 t' to _) 29 t' i ≠ gA (sA s1 29 t' to _) 29 t' j
      rcases tn.2.2.2.1 j d with e | e
      · subst e
        rw [gA_sA, if_neg (fun z => absurd (by rw [z.2.2] at b; exact b) Int32.lt_irrefl), gA_sA, if_pos ⟨rfl, rfl, rfl⟩]
        obtain ⟨m, m1, m2, m3, m4⟩ := c2 i a b
        have m3' : gA s1 29 t' i = t_open s t' m := m3
        rw [m3']
        exact dis m k m1 (Int32.lt_trans m2 hk) k0 hk (fun q => absurd (by rw [q] at m2; exact m2) Int32.lt_irrefl)
      · rw [gA_sA, if_neg (fun z => absurd (by rw [z.2.2] at b; exact Int32.lt_trans b e) Int32.lt_irrefl), gA_sA, if_neg (fun z => absurd (by rw [z.2.2] at e; exact e) Int32.lt_irrefl)]
        exact c4 i j a b e
    · exact c5 z fun j a b => hz j a (n5 j b)
    · rcases n4 j b with e | e
      · subst e
        exact absurd (Int32.lt_of_le_of_lt d c) Int32.lt_irrefl
      · exact c6 j a e d
    · have hge := Int32.not_lt.mp c
      have nz := c5 (t_open s t' k) fun j a b d => dis k j k0 hk a (Int32.lt_trans b hk) (fun q => absurd (by rw [q] at b; exact b) Int32.lt_irrefl)
      have sh := (h.1.1.1.2.2 _ l.1 l.2.1).1.2.2.2 l.2.2.1
      have vr := ((h.1.1.1.2.2 _ l.1 l.2.1).2.2.2.2 l.2.2.1).2 (by rw [lf]; exact ht.1)
      have e63' : a_second s1 (t_open s t' k) = a_second s (t_open s t' k) := e63
      have ff : a_first s1 (t_open s t' k) = t' := nz.1.trans lf
      have ldv : Vl false s (ldK s1 (t_open s t' k)) (ldV s1 (t_open s t' k)) := by
        unfold ldK ldV
        rw [ff, e63', if_pos ht.1, if_pos ht.1]
        show Vl false s (gA s1 20 t' _) (gB s1 21 t' _)
        rw [g3 20 t' _ (by decide) (by decide) (Or.inl (by decide)), g4 21 t' _ (by decide)]
        rw [lf] at vr
        exact vr
      refine ok_mono (closeVariable_ok s1 (t_open s t' k) xb ⟨by rw [ff]; exact ht.2, fun z => ?_⟩ ldv.kind) fun _ s2 cl => ?_
      · rw [e63']
        have q := sh.2 (by rw [lf]; exact ht.1)
        exact ⟨q.1, Int32.lt_trans q.2 (by decide)⟩
      · have r29 : ∀ j, t_open s2 t' j = t_open s1 t' j := fun j => cl.A 29 (by decide) t' j
        refine ⟨⟨⟨by trivial, by trivial⟩, ⟨to0, tk1.2⟩, n2, ⟨fun f i q => (cl.1 f i q).trans (g1 f i q), fun f i q => (cl.2.1 f i q).trans (g2 f i q), fun a i j a1 a2 a3 => (cl.2.2.1 a i j a1 a2).trans (g3 a i j a1 a2 a3), fun a i j q => (cl.2.2.2.1 a i j q).trans (g4 a i j q)⟩, fun j a b => ?_, fun j a b => ?_, fun i a b d => ?_, fun i j a b d => ?_, fun z hz => ?_, fun j a b d => ?_⟩, n6⟩
        · rw [r29]
          exact c1 j (n3 j a).1 b
        · rw [r29]
          obtain ⟨i, i1, i2, i3, i4⟩ := c2 j a b
          exact ⟨i, i1, n5 i i2, i3, i4⟩
        · rcases n4 i b with e | e
          · subst e
            exact absurd (Int32.lt_of_le_of_lt hge d) Int32.lt_irrefl
          · obtain ⟨j, j1, j2, j3⟩ := c3 i a e d
            exact ⟨j, j1, j2, (r29 j).trans j3⟩
        · rw [r29, r29]
          exact c4 i j a b d
        · have zk : z ≠ t_open s t' k := hz k k0 (by
            clear g1 g2 g3 g4 c1 c2 c3 c4 c5 c6 cq0 o1 o2 dis h w1 w2 tsh n3 n4 n5 tn l lf cl r29 hz nz vr sh ldv
            grind) hge
          obtain ⟨p1, p2, p3⟩ := c5 z fun j a b => hz j a (n5 j b)
          refine ⟨?_, ?_, ?_⟩
          · exact (cl.F zk).trans p1
          · show gA s2 5 0 z = _
            rw [cl.2.2.2.2.2.1, if_neg zk]
            exact p2
          · show gB s2 6 0 z = _
            rw [cl.2.2.2.2.2.2, if_neg zk]
            exact p3
        · rcases n4 j b with e | e
          · subst e
            refine ⟨?_, ?_⟩
            · show gA s2 62 0 _ = -1
              rw [cl.2.2.2.2.1, if_pos rfl]
            · show Vl false s (gA s2 5 0 _) (gB s2 6 0 _)
              rw [cl.2.2.2.2.2.1, if_pos rfl, cl.2.2.2.2.2.2, if_pos rfl]
              exact ldv
          · have jk : t_open s t' j ≠ t_open s t' k := dis j k a (Int32.lt_trans e hk) k0 hk (fun q => absurd (by rw [q] at e; exact e) Int32.lt_irrefl)
            obtain ⟨p1, p2⟩ := c6 j a e d
            refine ⟨?_, ?_⟩
            · exact (cl.F jk).trans p1
            · show Vl false s (gA s2 5 0 _) (gB s2 6 0 _)
              rw [cl.2.2.2.2.2.1, if_neg jk, cl.2.2.2.2.2.2, if_neg jk]
              exact p2
  · rintro ⟨y1, to⟩ s1 ⟨e1, ⟨b1, b2⟩, ⟨g1, g2, g3, g4⟩, c1, c2, c3, c4, c5, c6⟩
    dsimp only at e1 b1 b2 c2 c3 c4
    subst e1
    have r87 : t_openCount (sI s1 3587 y1 to) y1 = to := by simp only [t_openCount, gI_sI, gI_sL, gI_sA, gI_sB, gI_sAf, gI_sBf, gL_sI, gL_sL, gL_sA, gL_sB, gL_sAf, gL_sBf, gA_sI, gA_sL, gA_sA, gA_sB, gA_sAf, gA_sBf, gB_sI, gB_sL, gB_sA, gB_sB, gB_sAf, gB_sBf, Nat.reduceEqDiff, Nat.reduceMul, Nat.reduceAdd, false_and, true_and, and_true, and_false, if_true, if_false]
    have rop : ∀ k, t_open (sI s1 3587 y1 to) y1 k = t_open s1 y1 k := fun k => rfl
    have rfi : ∀ z, a_first (sI s1 3587 y1 to) z = a_first s1 z := fun z => rfl
    have cvx : ∀ z, Lv false s z 8 → a_first s z = y1 → ∃ k, 0 ≤ k ∧ k < t_openCount s y1 ∧ t_open s y1 k = z := fun z hz hf => by
      have := (h.1.1.2.2.2.2.1 z hz (by rw [hf]; exact ht.1)).2
      rw [hf] at this
      exact this
    have kept : ∀ i, 0 ≤ i → i < t_openCount s y1 → a_second s (t_open s y1 i) < fr → a_first s1 (t_open s y1 i) = y1 ∧ v_variable_k s1 (t_open s y1 i) = v_variable_k s (t_open s y1 i) ∧ v_variable_v s1 (t_open s y1 i) = v_variable_v s (t_open s y1 i) := fun i a b c => by
      have q := c5 (t_open s y1 i) fun j j1 j2 j3 e => by
        rw [← e] at j3
        exact absurd (Int32.lt_of_le_of_lt j3 c) Int32.lt_irrefl
      exact ⟨q.1.trans (o1 i a b).2, q.2⟩
    refine ⟨fun f i a b => ?_, g2, g3, g4, fun z hz => ?_, fun z hz hf => ?_, ?_, fun k a b => ?_, fun k j a b d => ?_, fun z hz hf => ?_⟩
    · rw [gI_sI, if_neg]
      · exact g1 f i a
      · rintro ⟨q1, q2⟩
        rcases b with b | b
        · exact b q1
        · exact b q2
    · exact c5 z fun j a b _ e => hz (by rw [e]; exact o1 j a b)
    · obtain ⟨k, k1, k2, k3⟩ := cvx z hz hf
      subst k3
      by_cases d : a_second s (t_open s y1 k) < fr
      · exact Or.inl (kept k k1 k2 d)
      · exact Or.inr (c6 k k1 k2 (Int32.not_lt.mp d))
    · rw [r87]
      exact ⟨b1, b2⟩
    · rw [r87] at b
      rw [rop, rfi]
      obtain ⟨i, i1, i2, i3, i4⟩ := c2 k a b
      rw [i3]
      exact ⟨(o1 i i1 i2).1, (kept i i1 i2 i4).1⟩
    · rw [r87] at d
      exact c4 k j a b d
    · rw [rfi] at hf
      rw [r87]
      have hf0 : a_first s z = y1 := by
        by_cases q : ∀ j, 0 ≤ j → j < t_openCount s y1 → fr ≤ a_second s (t_open s y1 j) → z ≠ t_open s y1 j
        · rw [← (c5 z q).1]
          exact hf
        · exfalso
          apply q
          intro j j1 j2 j3 e
          rw [e, (c6 j j1 j2 j3).1] at hf
          rw [← hf] at ht
          exact absurd ht.1 (by decide)
      obtain ⟨k, k1, k2, k3⟩ := cvx z hz hf0
      subst k3
      by_cases d : a_second s (t_open s y1 k) < fr
      · exact c3 k k1 k2 d
      · have := (c6 k k1 k2 (Int32.not_lt.mp d)).1
        rw [this] at hf
        rw [← hf] at ht
        exact absurd ht.1 (by decide)
theorem frames_in {s : S1} {t : Int32} (h : GG s) (ht : 0 ≤ t ∧ t < 33) (hp : 0 ≤ t_place s t) : 0 ≤ t_frames s t ∧ t_frames s t ≤ 200 := by
  obtain ⟨w1, w2⟩ := h.1.1.2.2.2.2.2.1 t ht.1 ht.2 hp
  have tsh := (h.1.1.1.2.2 _ w1.1 w1.2.1).1.2.2.1 w1.2.2.1
  rw [w2] at tsh
  exact tsh.2.2.2.2.1
theorem q_leave_ok (s : S1) (t fr : Int32) (h : GG s) (ht : 0 ≤ t ∧ t < 33) (hp : 0 ≤ t_place s t) (hf : 0 ≤ fr) : ok (M_Mo_leave t fr) s (fun _ s' => s' = s ∨ Cw s s' t) := by
  have fi := frames_in h ht hp
  simp only [M_Mo_leave, ok_B, ok_C, ok_R, ok_L, ok_K, ok_GI, ok_GL, ok_PI, ok_PL, ok_AI, ok_AL, ok_SI, ok_SL, ok_Pr, ok_CI, cmp_lt, cmp_le, cmp_gt, cmp_ge, cmp_eq, nar0, nar1, Sum.elim_inl, Sum.elim_inr]
  refine ok_mono (ok_W (Q := fun y s' => s' = s ∧ Sum.elim (fun z => z.1 = t ∧ 0 ≤ z.2 ∧ z.2 < 201) (fun _ => True) y) (fun x s' => s' = s ∧ x.1 = t ∧ 0 ≤ x.2) (fun x _ => (t_frames s t - x.2).toNatClampNeg) ?_ _ _ ⟨rfl, rfl, hf⟩) ?_
  · rintro ⟨t', f⟩ s1 ⟨es, e1, f0⟩
    dsimp only at e1 f0
    subst es e1
    simp only [M_Mo_leave_L2, ok_B, ok_C, ok_R, ok_L, ok_K, ok_GI, ok_GL, ok_PI, ok_PL, ok_AI, ok_AL, ok_SI, ok_SL, ok_Pr, ok_CI, cmp_lt, cmp_le, cmp_gt, cmp_ge, cmp_eq, nar0, nar1, Sum.elim_inl, Sum.elim_inr]
    refine ⟨fun c => ⟨by trivial, by trivial⟩, fun c => ?_⟩
    have hlt := Int32.not_le.mp c
    have n := step_num f0 hlt (Int32.le_trans fi.2 (by decide))
    have fb : 0 ≤ f ∧ f < 201 := ⟨f0, Int32.lt_of_lt_of_le hlt (Int32.le_trans fi.2 (by decide))⟩
    exact ⟨fb, fun _ => ⟨by trivial, by trivial, fb⟩, fun _ => ⟨⟨by trivial, by trivial, n.1⟩, n.2.2.2.2.2⟩⟩
  · rintro (⟨t', f⟩ | y) s1 ⟨es, hy⟩
    · subst es
      simp only [Sum.elim_inl] at hy
      obtain ⟨e1, fb⟩ := hy
      subst e1
      simp only [ok_B, ok_C, ok_R, ok_L, ok_K, ok_GI, ok_GL, ok_PI, ok_PL, ok_AI, ok_AL, ok_SI, ok_SL, ok_Pr, ok_CI, cmp_lt, cmp_le, cmp_gt, cmp_ge, cmp_eq, nar0, nar1, Sum.elim_inl, Sum.elim_inr]
      exact ⟨fb, ok_mono (q_close_ok s1 t' _ h ht hp) fun _ s2 cw => Or.inr cw⟩
    · subst es
      simp only [ok_B, ok_C, ok_R, ok_L, ok_K, ok_GI, ok_GL, ok_PI, ok_PL, ok_AI, ok_AL, ok_SI, ok_SL, ok_Pr, ok_CI, cmp_lt, cmp_le, cmp_gt, cmp_ge, cmp_eq, nar0, nar1, Sum.elim_inl, Sum.elim_inr]
      exact Or.inl (by trivial)
