/-! Rows written by the program; the top frame's own columns. -/
def feA0 (a : Nat) : Bool := [2, 30, 31, 42, 43, 44, 45, 46, 47, 48, 49, 50, 51, 52, 53, 54, 55, 82, 83, 84].contains a
def Fe0 (s s' : S1) : Prop := (∀ f i, feI f = true → gI s' f i = gI s f i) ∧ (∀ a i j, feA0 a = true → gA s' a i j = gA s a i j) ∧ (∀ i j, gB s' 3 i j = gB s 3 i j) ∧ (∀ t, 0 ≤ t → t < 33 → 0 ≤ t_place s' t → 0 ≤ t_place s t) ∧ (∀ n, 0 ≤ chN s n → 0 ≤ t_place s' (chN s n)) ∧ 0 ≤ t_place s' 0 ∧ ∀ x, FL s x → FL s' x
theorem Fe0.I {s s' : S1} (h : Fe0 s s') (f : Nat) (hf : feI f = true) (i : Int32) : gI s' f i = gI s f i := h.1 f i hf
theorem Fe0.A {s s' : S1} (h : Fe0 s s') (f : Nat) (hf : feA0 f = true) (i j : Int32) : gA s' f i j = gA s f i j := h.2.1 f i j hf
theorem Wf.fe0 {s s' : S1} {p i : Int32} (hs : Fe0 s s') : Wf s' p i ↔ Wf s p i := by
  unfold Wf Wn Gs Rr Rq
  simp only [a_registers, a_upvalues, a_consts, a_codeAt, a_codes, a_children, a_code, hs.A 44 (by decide), hs.A 45 (by decide), hs.A 48 (by decide), hs.A 49 (by decide), hs.A 50 (by decide), hs.A 52 (by decide), hs.A 55 (by decide)]
theorem Pg.fe0 {s s' : S1} (hs : Fe0 s s') : Pg s' ↔ Pg s := by
  unfold Pg Pp
  simp only [Wf.fe0 hs]
  simp only [f_protos, f_constCount, a_params, a_registers, a_upvalues, a_upAt, a_constAt, a_consts, a_codeAt, a_codes, a_childAt, a_children, a_ups, a_child, hs.I 23 (by decide), hs.I 25 (by decide), hs.A 42 (by decide), hs.A 44 (by decide), hs.A 45 (by decide), hs.A 46 (by decide), hs.A 47 (by decide), hs.A 48 (by decide), hs.A 49 (by decide), hs.A 50 (by decide), hs.A 51 (by decide), hs.A 52 (by decide), hs.A 53 (by decide), hs.A 54 (by decide)]
theorem Fx4.fe0 {s s' : S1} (h : Fx4 s) (hs : Fe0 s s') : Fx4 s' := by
  obtain ⟨h1, h2, h3, h4⟩ := h
  have fl := hs.2.2.2.2.2.2
  refine ⟨fun i a b => ?_, fun i a b => ?_, fun i a b => ?_, fun i a b => ?_⟩
  · show FL s' (gA s' 82 0 i)
    rw [hs.A 82 (by decide)]
    exact fl _ (h1 i a b)
  · show FL s' (gA s' 83 0 i)
    rw [hs.A 83 (by decide)]
    exact fl _ (h2 i a b)
  · show FL s' (gA s' 84 0 i)
    rw [hs.A 84 (by decide)]
    exact fl _ (h3 i a b)
  · have b' : i < gI s' 25 0 := b
    rw [hs.I 25 (by decide)] at b'
    have := h4 i a b'
    unfold Kc at *
    simp only [v_constants_k, v_constants_v, hs.A 2 (by decide), hs.2.2.1] at *
    exact this.imp id fun w => ⟨w.1, w.2.1, w.2.2.1, fl _ w.2.2.2⟩
theorem Ths.fe0 {s s' : S1} (h : Ths s) (hs : Fe0 s s') : Ths s' := by
  have hc := fun n => chN_I (hs.I 72 (by decide) 0) (hs.I 3590 (by decide)) n
  have h4 := hs.2.2.2.1
  have h5 := hs.2.2.2.2.1
  have h6 := hs.2.2.2.2.2.1
  unfold Ths at *
  simp only [hc]
  simp only [f_current, t_state, t_resumer, t_frames, t_kind, t_begun, v_start_n, hs.I 72 (by decide), hs.I 3585 (by decide), hs.I 3586 (by decide), hs.I 3589 (by decide), hs.I 3590 (by decide), hs.I 3202 (by decide), hs.A 30 (by decide)] at *
  obtain ⟨t1, t2, t3, t4, t5, t6, t7, t8, t9, t10, t11⟩ := h
  exact ⟨t1, t2, fun u a b c => t3 u a b (h4 u a b c), t4, fun u a b c => t5 u a b (h4 u a b c), t6, t7, h6, h5, fun u a b c => t10 u a b (h4 u a b c), fun u a b c => t11 u a b (h4 u a b c)⟩
/-- only the top frame's columns pc, row, mode and the like are written -/
def Tc2 (s s' : S1) : Prop := (∀ f i, gI s' f i = gI s f i) ∧ (∀ f i, gL s' f i = gL s f i) ∧ (∀ a i j, (a ≠ 32 ∧ a ≠ 35 ∧ a ≠ 36 ∧ a ≠ 37 ∧ a ≠ 38 ∧ a ≠ 39 ∧ a ≠ 40) ∨ ¬ (i = cu s ∧ j = tp s) → gA s' a i j = gA s a i j) ∧ ∀ a i j, gB s' a i j = gB s a i j
theorem Fr.topw {s s' : S1} (h : Fr false s) (hs : Tc2 s s') : Fr false s' := by
  obtain ⟨h1, h2, h3, h4⟩ := h
  obtain ⟨q1, q2, q3, q4⟩ := hs
  have fa : ∀ a, (a ≠ 32 ∧ a ≠ 35 ∧ a ≠ 36 ∧ a ≠ 37 ∧ a ≠ 38 ∧ a ≠ 39 ∧ a ≠ 40) → ∀ i j, gA s' a i j = gA s a i j := fun a p i j => q3 a i j (Or.inl p)
  have hz : Fe0 s s' := by
    refine ⟨fun f i _ => q1 f i, fun a i j q => fa a ?_ i j, fun i j => q4 3 i j, fun t _ _ q => by
      have : t_place s' t = t_place s t := q1 3584 t
      rw [← this]
      exact q, fun n q => ?_, ?_, fun x q => ?_⟩
    · unfold feA0 at q
      simp only [List.contains_eq_mem, List.mem_cons, List.not_mem_nil, or_false, decide_eq_true_eq] at q
      omega
    · show 0 ≤ gI s' 3584 _
      rw [q1]
      exact h3.2.2.2.2.2.2.2.2.1 n q
    · show 0 ≤ gI s' 3584 _
      rw [q1]
      exact h3.2.2.2.2.2.2.2.1
    · unfold FL Lv at *
      simp only [f_used, a_sort, a_fixed, a_marked, q1, fa 58 (by decide), fa 59 (by decide), fa 60 (by decide)] at *
      exact q
  refine ⟨(Pg.fe0 hz).mpr h1, h2.fe0 hz, h3.fe0 hz, fun t a b c f d e => ?_⟩
  have c' : 0 ≤ t_place s t := by
    have w : t_place s' t = t_place s t := q1 3584 t
    rw [← w]
    exact c
  have e' : f < t_frames s t := by
    have w : t_frames s' t = t_frames s t := q1 3586 t
    rw [← w]
    exact e
  have k := h4 t a b c' f d e'
  by_cases g : t = cu s ∧ f = tp s
  · obtain ⟨g1, g2⟩ := g
    subst g1
    unfold Fi at *
    simp only [t_kind, t_extra, t_frames, f_current, pf, a_first, t_function, q1, fa 30 (by decide), fa 34 (by decide), fa 31 (by decide), fa 62 (by decide)] at *
    refine ⟨k.1, fun z => ⟨(k.2 z).1, fun y => ?_⟩⟩
    exfalso
    rcases y with y | y | y
    · rw [g2] at y
      exact absurd y Int32.lt_irrefl
    · exact absurd rfl y
    · cases y
  · have fb : ∀ a, gA s' a t f = gA s a t f := fun a => q3 a t f (Or.inr g)
    unfold Fi Wt Gs at *
    simp only [t_kind, t_extra, t_frames, f_current, pf, a_first, t_function, t_pc, t_rowCount, t_mode, t_into, t_want, t_step, a_registers, a_codeAt, a_codes, a_code, q1, fb, fa 62 (by decide), fa 44 (by decide), fa 49 (by decide), fa 50 (by decide), fa 55 (by decide)] at *
    exact k
/-- one of the rows args, results, ended is written -/
def Ag (r : Nat) (s s' : S1) : Prop := GG s' ∧ (∀ f i, f ≠ 128 * r + 2 → gI s' f i = gI s f i) ∧ (∀ f i, gL s' f i = gL s f i) ∧ (∀ a i j, a ≠ r + 1 → gA s' a i j = gA s a i j) ∧ ∀ a i j, a ≠ r + 2 → gB s' a i j = gB s a i j
theorem Ag.refl (r : Nat) {s : S1} (h : GG s) : Ag r s s := ⟨h, fun _ _ _ => rfl, fun _ _ => rfl, fun _ _ _ _ => rfl, fun _ _ _ _ => rfl⟩
theorem Ag.trans {r : Nat} {a b c : S1} (h : Ag r a b) (k : Ag r b c) : Ag r a c := ⟨k.1, fun f i q => (k.2.1 f i q).trans (h.2.1 f i q), fun f i => (k.2.2.1 f i).trans (h.2.2.1 f i), fun a i j q => (k.2.2.2.1 a i j q).trans (h.2.2.2.1 a i j q), fun a i j q => (k.2.2.2.2 a i j q).trans (h.2.2.2.2 a i j q)⟩
theorem Ag.hy {r : Nat} {s s' : S1} (h : Ag r s s') (hr : r = 7 ∨ r = 10 ∨ r = 13) : Hy s s' := by
  rcases hr with e | e | e <;> subst e
  all_goals
    refine ⟨fun f i q => h.2.1 f i ?_, fun a i j q => h.2.2.2.1 a i j ?_, fun i j => h.2.2.2.2 3 i j (by decide)⟩
    · rintro e
      subst e
      exact absurd q (by decide)
    · rintro e
      subst e
      exact absurd q (by decide)
theorem Ag.hs {r : Nat} {s s' : S1} (h : Ag r s s') (hr : r = 7 ∨ r = 10 ∨ r = 13) : Hs s s' := by
  rcases hr with e | e | e <;> subst e
  all_goals
    refine ⟨fun a i j q => h.2.2.2.1 a i j ?_, fun a i j q => h.2.2.2.2 a i j ?_, fun f i q => h.2.1 f i ?_⟩
    · rintro e
      subst e
      exact absurd q (by decide)
    · rintro e
      subst e
      exact absurd q (by decide)
    · rintro e
      subst e
      exact absurd q (by decide)
theorem Ag.rx {r : Nat} {s s' : S1} (h : Ag r s s') (hr : r = 7 ∨ r = 10 ∨ r = 13) (hz : f_noCollection s = 0) : Rx s s' := Rx.hy h.1 (h.hy hr) hz
theorem row_len (r : Nat) (hr : r = 7 ∨ r = 10 ∨ r = 13) : lnI (r + 1) = 400 ∧ lnI (r + 2) = 400 := by
  rcases hr with e | e | e <;> subst e <;> exact ⟨rfl, rfl⟩
theorem GG.rown {s : S1} (h : GG s) (r : Nat) (hr : r = 7 ∨ r = 10 ∨ r = 13) : 0 ≤ gI s (128 * r + 2) 0 ∧ gI s (128 * r + 2) 0 ≤ 400 := by
  rcases hr with e | e | e <;> subst e
  · exact h.2.2.2.1.2.1
  · exact h.2.2.2.1.2.2.1
  · exact h.2.2.2.1.2.2.2.1
theorem GG.rowv {s : S1} (h : GG s) (r : Nat) (hr : r = 7 ∨ r = 10 ∨ r = 13) : RvV s r := by
  rcases hr with e | e | e <;> subst e
  · exact h.2.2.2.1.2.2.2.2.2.1
  · exact h.2.2.2.1.2.2.2.2.2.2.1
  · exact h.2.2.2.1.2.2.2.2.2.2.2.1
theorem zero_ag {s : S1} (h : GG s) (r : Nat) (hr : r = 7 ∨ r = 10 ∨ r = 13) : Ag r s (sI s (128 * r + 2) 0 0) := ⟨h.zRow r hr, fun f i q => by rw [gI_sI, if_neg (fun z => q z.1)], fun _ _ => rfl, fun _ _ _ _ => rfl, fun _ _ _ _ => rfl⟩
theorem less_ag {s : S1} (h : GG s) (r : Nat) (hr : r = 7 ∨ r = 10 ∨ r = 13) {n : Int32} (hn : 0 ≤ n ∧ n ≤ gI s (128 * r + 2) 0) : Ag r s (sI s (128 * r + 2) 0 n) := ⟨h.nRow r hr ⟨hn.1, Int32.le_trans hn.2 (h.rown r hr).2⟩ fun i a b => h.rowv r hr i a (Int32.lt_of_lt_of_le b hn.2), fun f i q => by rw [gI_sI, if_neg (fun z => q z.1)], fun _ _ => rfl, fun _ _ _ _ => rfl, fun _ _ _ _ => rfl⟩
theorem set_ag {s : S1} (h : GG s) (r : Nat) (hr : r = 7 ∨ r = 10 ∨ r = 13) {i k : Int32} {v : Int64} (hv : Vl false s k v) : Ag r s (sB (sA s (r + 1) 0 i k) (r + 2) 0 i v) := ⟨h.setRow r hr hv, fun _ _ _ => rfl, fun _ _ => rfl, fun a i j q => by rw [gA_sB, gA_sA, if_neg (fun z => q z.1)], fun a i j q => by rw [gB_sB, if_neg (fun z => q z.1), gB_sA]⟩
theorem add_ag {s : S1} (h : GG s) (r : Nat) (hr : r = 7 ∨ r = 10 ∨ r = 13) {k : Int32} {v : Int64} (hv : Vl false s k v) (hn : gI s (128 * r + 2) 0 < 400) : Ag r s (sI (sB (sA s (r + 1) 0 (gI s (128 * r + 2) 0) k) (r + 2) 0 (gI s (128 * r + 2) 0) v) (128 * r + 2) 0 (gI s (128 * r + 2) 0 + 1)) := by
  have h1 := set_ag h r hr (i := gI s (128 * r + 2) 0) hv
  have n0 := h.rown r hr
  have hh := h1.hs hr
  have nn : (0 ≤ gI s (128 * r + 2) 0 + 1 ∧ gI s (128 * r + 2) 0 + 1 ≤ 400) ∧ ∀ i, i < gI s (128 * r + 2) 0 + 1 → i ≠ gI s (128 * r + 2) 0 → i < gI s (128 * r + 2) 0 := by
    clear h1 hh hv h
    generalize gI s (128 * r + 2) 0 = n at *
    exact ⟨⟨by grind, by grind⟩, fun i a b => by grind⟩
  refine ⟨h1.1.nRow r hr nn.1 fun i a b => ?_, fun f i q => by rw [gI_sI, if_neg (fun z => q z.1)]; rfl, fun _ _ => rfl, h1.2.2.2.1, h1.2.2.2.2⟩
  rw [Vl.hs hh, gA_sB, gA_sA, gB_sB, gB_sA]
  simp only [true_and]
  by_cases c : i = gI s (128 * r + 2) 0
  · rw [if_pos c, if_pos c]
    exact hv
  · rw [if_neg c, if_neg c]
    exact h.rowv r hr i a (nn.2 i b c)
theorem add_ok (s : S1) (r : Nat) (hr : r = 7 ∨ r = 10 ∨ r = 13) (k : Int32) (v : Int64) (h : GG s) (hv : Vl false s k v) (hn : gI s (128 * r + 2) 0 < 400) : ok (M_Va_add r 0 k v) s (fun _ s' => Ag r s s' ∧ gI s' (128 * r + 2) 0 = gI s (128 * r + 2) 0 + 1) := by
  have n0 := h.rown r hr
  have key := add_ag h r hr hv hn
  obtain ⟨l1, l2⟩ := row_len r hr
  simp only [M_Va_add, ok_B, ok_C, ok_R, ok_L, ok_K, ok_GI, ok_GL, ok_PI, ok_PL, ok_AI, ok_AL, ok_SI, ok_SL, ok_Pr, ok_CI, cmp_lt, cmp_le, cmp_gt, cmp_ge, cmp_eq, nar0, nar1, Sum.elim_inl, Sum.elim_inr, i8_id hv.kind, l1, l2]
  simp only [gI_sA]
  refine ⟨⟨n0.1, hn⟩, ⟨n0.1, hn⟩, key, ?_⟩
  rw [gI_sB, gI_sI, if_pos ⟨rfl, rfl⟩]
theorem addFrom_ok (s : S1) (r r2 : Nat) (u j : Int32) (hr : r = 7 ∨ r = 10 ∨ r = 13) (h : GG s) (hj : 0 ≤ j ∧ j < lnI (r2 + 1) ∧ j < lnI (r2 + 2)) (hv : Vl false s (gA s (r2 + 1) u j) (gB s (r2 + 2) u j)) (hn : gI s (128 * r + 2) 0 < 400) : ok (M_Va_add_ r 0 r2 u j) s (fun _ s' => Ag r s s' ∧ gI s' (128 * r + 2) 0 = gI s (128 * r + 2) 0 + 1) := by
  simp only [M_Va_add_, ok_B, ok_C, ok_R, ok_L, ok_K, ok_GI, ok_GL, ok_PI, ok_PL, ok_AI, ok_AL, ok_SI, ok_SL, ok_Pr, ok_CI, cmp_lt, cmp_le, cmp_gt, cmp_ge, cmp_eq, nar0, nar1, Sum.elim_inl, Sum.elim_inr]
  exact ⟨⟨hj.1, hj.2.1⟩, ⟨hj.1, hj.2.2⟩, add_ok s r hr _ _ h hv hn⟩
theorem setA_ok (s : S1) (r : Nat) (hr : r = 7 ∨ r = 10 ∨ r = 13) (i k : Int32) (v : Int64) (h : GG s) (hi : 0 ≤ i ∧ i < 400) (hv : Vl false s k v) : ok (M_Va_set r 0 i k v) s (fun _ s' => Ag r s s' ∧ s' = sB (sA s (r + 1) 0 i k) (r + 2) 0 i v) := by
  obtain ⟨l1, l2⟩ := row_len r hr
  simp only [M_Va_set, ok_B, ok_C, ok_R, ok_L, ok_K, ok_GI, ok_GL, ok_PI, ok_PL, ok_AI, ok_AL, ok_SI, ok_SL, ok_Pr, ok_CI, cmp_lt, cmp_le, cmp_gt, cmp_ge, cmp_eq, nar0, nar1, Sum.elim_inl, Sum.elim_inr, i8_id hv.kind, l1, l2]
  exact ⟨hi, hi, set_ag h r hr hv, by trivial⟩
theorem setAA_ok (s : S1) (r r2 : Nat) (u j : Int32) (hr : r = 7 ∨ r = 10 ∨ r = 13) (i : Int32) (h : GG s) (hi : 0 ≤ i ∧ i < 400) (hj : 0 ≤ j ∧ j < lnI (r2 + 1) ∧ j < lnI (r2 + 2)) (hv : Vl false s (gA s (r2 + 1) u j) (gB s (r2 + 2) u j)) : ok (M_Va_set_ r 0 i r2 u j) s (fun _ s' => Ag r s s' ∧ s' = sB (sA s (r + 1) 0 i (gA s (r2 + 1) u j)) (r + 2) 0 i (gB s (r2 + 2) u j)) := by
  obtain ⟨l1, l2⟩ := row_len r hr
  simp only [M_Va_set_, ok_B, ok_C, ok_R, ok_L, ok_K, ok_GI, ok_GL, ok_PI, ok_PL, ok_AI, ok_AL, ok_SI, ok_SL, ok_Pr, ok_CI, cmp_lt, cmp_le, cmp_gt, cmp_ge, cmp_eq, nar0, nar1, Sum.elim_inl, Sum.elim_inr, i8_id hv.kind, l1, l2]
  exact ⟨⟨hj.1, hj.2.1⟩, hi, ⟨hj.1, hj.2.2⟩, hi, set_ag h r hr hv, rfl⟩
theorem zero7 {s : S1} (h : GG s) : Ag 7 s (sI s 898 0 0) := by
  have w := zero_ag h 7 (Or.inl rfl)
  simp only [Nat.reduceMul, Nat.reduceAdd] at w
  exact w
theorem zero10 {s : S1} (h : GG s) : Ag 10 s (sI s 1282 0 0) := by
  have w := zero_ag h 10 (Or.inr (Or.inl rfl))
  simp only [Nat.reduceMul, Nat.reduceAdd] at w
  exact w
theorem zero13 {s : S1} (h : GG s) : Ag 13 s (sI s 1666 0 0) := by
  have w := zero_ag h 13 (Or.inr (Or.inr rfl))
  simp only [Nat.reduceMul, Nat.reduceAdd] at w
  exact w
theorem add7_ok (s : S1) (k : Int32) (v : Int64) (h : GG s) (hv : Vl false s k v) (hn : gI s 898 0 < 400) : ok (M_Va_add 7 0 k v) s (fun _ s' => Ag 7 s s' ∧ gI s' 898 0 = gI s 898 0 + 1) := by
  have w := add_ok s 7 (Or.inl rfl) k v h hv (by simp only [Nat.reduceMul, Nat.reduceAdd]; exact hn)
  simp only [Nat.reduceMul, Nat.reduceAdd] at w
  exact w
theorem add10_ok (s : S1) (k : Int32) (v : Int64) (h : GG s) (hv : Vl false s k v) (hn : gI s 1282 0 < 400) : ok (M_Va_add 10 0 k v) s (fun _ s' => Ag 10 s s' ∧ gI s' 1282 0 = gI s 1282 0 + 1) := by
  have w := add_ok s 10 (Or.inr (Or.inl rfl)) k v h hv (by simp only [Nat.reduceMul, Nat.reduceAdd]; exact hn)
  simp only [Nat.reduceMul, Nat.reduceAdd] at w
  exact w
theorem add13_ok (s : S1) (k : Int32) (v : Int64) (h : GG s) (hv : Vl false s k v) (hn : gI s 1666 0 < 400) : ok (M_Va_add 13 0 k v) s (fun _ s' => Ag 13 s s' ∧ gI s' 1666 0 = gI s 1666 0 + 1) := by
  have w := add_ok s 13 (Or.inr (Or.inr rfl)) k v h hv (by simp only [Nat.reduceMul, Nat.reduceAdd]; exact hn)
  simp only [Nat.reduceMul, Nat.reduceAdd] at w
  exact w
theorem Ag.h7 {s s' : S1} (h : Ag 7 s s') : Hs s s' := h.hs (Or.inl rfl)
theorem Ag.h10 {s s' : S1} (h : Ag 10 s s') : Hs s s' := h.hs (Or.inr (Or.inl rfl))
theorem Ag.h13 {s s' : S1} (h : Ag 13 s s') : Hs s s' := h.hs (Or.inr (Or.inr rfl))
theorem arguments_ok (s : S1) (k1 k2 : Int32) (v1 v2 : Int64) (h : GG s) (h1 : Vl false s k1 v1) (h2 : Vl false s k2 v2) : ok (M_Mo_arguments k1 v1 k2 v2) s (fun _ s' => Ag 7 s s' ∧ v_args_n s' = 2) := by
  simp only [M_Mo_arguments, ok_B, ok_C, ok_R, ok_L, ok_K, ok_GI, ok_GL, ok_PI, ok_PL, ok_AI, ok_AL, ok_SI, ok_SL, ok_Pr, ok_CI, cmp_lt, cmp_le, cmp_gt, cmp_ge, cmp_eq, nar0, nar1, Sum.elim_inl, Sum.elim_inr]
  have a0 := zero7 h
  have e0 : gI (sI s 898 0 0) 898 0 = 0 := by simp only [gI_sI, gI_sL, gI_sA, gI_sB, gI_sAf, gI_sBf, gL_sI, gL_sL, gL_sA, gL_sB, gL_sAf, gL_sBf, gA_sI, gA_sL, gA_sA, gA_sB, gA_sAf, gA_sBf, gB_sI, gB_sL, gB_sA, gB_sB, gB_sAf, gB_sBf, Nat.reduceEqDiff, Nat.reduceMul, Nat.reduceAdd, false_and, true_and, and_true, and_false, if_true, if_false]
  generalize sI s 898 0 0 = z at *
  refine ok_mono (add7_ok z k1 v1 a0.1 ((Vl.hs a0.h7).mpr h1) (by rw [e0]; decide)) fun _ s1 ⟨a1, n1⟩ => ?_
  rw [e0] at n1
  have a01 := a0.trans a1
  refine ok_mono (add7_ok s1 k2 v2 a1.1 ((Vl.hs a01.h7).mpr h2) (by rw [n1]; decide)) fun _ s2 ⟨a2, n2⟩ => ⟨a01.trans a2, ?_⟩
  show gI s2 898 0 = 2
  rw [n2, n1]
  rfl
theorem q_give_ok (s : S1) (k : Int32) (v : Int64) (h : GG s) (hv : Vl false s k v) : ok (M_Mo_give k v) s (fun _ s' => ∃ s1, Ag 10 s s1 ∧ gI s1 1282 0 = 1 ∧ s' = sI s1 73 0 2) := by
  simp only [M_Mo_give, ok_B, ok_C, ok_R, ok_L, ok_K, ok_GI, ok_GL, ok_PI, ok_PL, ok_AI, ok_AL, ok_SI, ok_SL, ok_Pr, ok_CI, cmp_lt, cmp_le, cmp_gt, cmp_ge, cmp_eq, nar0, nar1, Sum.elim_inl, Sum.elim_inr]
  have a0 := zero10 h
  have e0 : gI (sI s 1282 0 0) 1282 0 = 0 := by simp only [gI_sI, gI_sL, gI_sA, gI_sB, gI_sAf, gI_sBf, gL_sI, gL_sL, gL_sA, gL_sB, gL_sAf, gL_sBf, gA_sI, gA_sL, gA_sA, gA_sB, gA_sAf, gA_sBf, gB_sI, gB_sL, gB_sA, gB_sB, gB_sAf, gB_sBf, Nat.reduceEqDiff, Nat.reduceMul, Nat.reduceAdd, false_and, true_and, and_true, and_false, if_true, if_false]
  generalize sI s 1282 0 0 = z at *
  refine ok_mono (add10_ok z k v a0.1 ((Vl.hs a0.h10).mpr hv) (by rw [e0]; decide)) fun _ s1 ⟨a1, n1⟩ => ⟨s1, a0.trans a1, ?_, rfl⟩
  rw [n1, e0]
  rfl
