/-! A collection, up to its sweep. -/
theorem ok_F {α : Type} (s : S1) (Q : α → S1 → Prop) : ok (oF (α := α)) s Q ↔ False := ⟨fun ⟨p, h, _⟩ => oF_no h, fun h => h.elim⟩
def Flld (s s' : S1) (r : Nat) (u a b v : Int32) : Prop := (∀ f i, gI s' f i = gI s f i) ∧ (∀ f i, gL s' f i = gL s f i) ∧ (∀ f i j, gB s' f i j = gB s f i j) ∧ ∀ r' u' j, gA s' r' u' j = if r' = r ∧ u' = u ∧ a ≤ j ∧ j < b then v else gA s r' u' j
theorem Flld.next {s s' : S1} {r : Nat} {u a i v : Int32} (h : Flld s s' r u a i v) (hi : a ≤ i ∧ i < 1000000) : Flld s (sA s' r u i v) r u a (i + 1) v := by
  obtain ⟨h1, h2, h3, h4⟩ := h
  refine ⟨h1, h2, h3, fun r' u' j => ?_⟩
  have := h4 r' u' j
  rw [gA_sA, this]
  clear h1 h2 h3 h4 this
  by_cases c : r' = r ∧ u' = u
  · obtain ⟨rfl, rfl⟩ := c
    simp only [true_and]
    by_cases d : j = i
    · subst d
      rw [if_pos rfl, if_pos (by grind)]
    · rw [if_neg d]
      by_cases e : a ≤ j ∧ j < i
      · rw [if_pos e, if_pos (by grind)]
      · rw [if_neg e, if_neg (by grind)]
  · rw [if_neg (fun z => c ⟨z.1, z.2.1⟩), if_neg (fun z => c ⟨z.1, z.2.1⟩), if_neg (fun z => c ⟨z.1, z.2.1⟩)]
theorem Flld.nil {s : S1} {r : Nat} {u a v : Int32} : Flld s s r u a a v := ⟨fun _ _ => rfl, fun _ _ => rfl, fun _ _ _ => rfl, fun r' u' j => by rw [if_neg]; rintro ⟨-, -, x, y⟩; grind⟩
theorem fillB_ok (s : S1) (r : Nat) (u a b v : Int32) (hr : (dyF r = true → gI s (128 * r + 127) u = 1) ∧ 0 ≤ u ∧ u.toNatClampNeg < cnF r) (h : 0 ≤ a ∧ a ≤ b ∧ b ≤ lnI r) (hl : lnI r ≤ 500000) :
    ok (M_Arr_fill____ r u a b v) s (fun _ s' => Flld s s' r u a b (vp_nar .boolean v)) := by
  simp only [M_Arr_fill____, M_Arr_rangeCheck, ok_B, ok_C, ok_R, ok_L, ok_K, ok_GI, ok_GL, ok_PI, ok_PL, ok_AI, ok_AL, ok_SI, ok_SL, ok_Pr, ok_CI, cmp_lt, cmp_le, cmp_gt, cmp_ge, cmp_eq, nar0, nar1, Sum.elim_inl, Sum.elim_inr, ok_F]
  refine ⟨fun _ => ⟨fun _ => ⟨fun _ => ⟨hr, ?_⟩, fun c => c h.2.2⟩, fun c => c h.1⟩, fun c => c h.2.1⟩
  refine ok_W (fun y s' => (y.1 = r ∧ y.2.1 = u ∧ y.2.2.1 = b ∧ y.2.2.2.1 = v) ∧ (a ≤ y.2.2.2.2 ∧ y.2.2.2.2 ≤ b) ∧ Flld s s' r u a y.2.2.2.2 (vp_nar .boolean v)) (fun y _ => (b - y.2.2.2.2).toNatClampNeg) ?_ _ _ ⟨⟨rfl, rfl, rfl, rfl⟩, ⟨(show a ≤ a by grind), h.2.1⟩, Flld.nil⟩
  rintro ⟨r', u', b', v', i⟩ s1 ⟨⟨e1, e2, e3, e4⟩, ⟨h1, h2⟩, hf⟩
  dsimp only at e1 e2 e3 e4 h1 h2 hf
  subst e1 e2 e3 e4
  simp only [M_Arr_fill_____L10, ok_B, ok_C, ok_R, ok_L, ok_K, ok_GI, ok_GL, ok_PI, ok_PL, ok_AI, ok_AL, ok_SI, ok_SL, ok_Pr, ok_CI, cmp_lt, cmp_le, cmp_gt, cmp_ge, cmp_eq, nar0, nar1, Sum.elim_inl, Sum.elim_inr]
  refine ⟨fun c => ?_, fun c => ⟨?_, ⟨⟨by trivial, by trivial, by trivial, by trivial⟩, ⟨?_, ?_⟩, ?_⟩, ?_⟩⟩
  · have : i = b' := by clear hf; grind
    rw [← this]
    exact hf
  · clear hf
    grind
  · clear hf
    grind
  · clear hf
    grind
  · exact hf.next ⟨h1, by clear hf; grind⟩
  · clear hf
    exact clamp_lt (by grind) (by grind)
theorem fixed_ok (s : S1) (hg : Grey s) : ok (oW M_Mo_collection_L30 0) s (fun _ s' => Grey s' ∧ MStep s s' ∧ ∀ x, 0 ≤ x → x < f_used s → a_sort s x ≠ 0 → a_fixed s x ≠ 0 → a_marked s' x ≠ 0) := by
  have hu := hg.1
  refine ok_W (fun i s' => (0 ≤ i ∧ i ≤ f_used s) ∧ Grey s' ∧ MStep s s' ∧ ∀ x, 0 ≤ x → x < i → a_sort s x ≠ 0 → a_fixed s x ≠ 0 → a_marked s' x ≠ 0) (fun i _ => (f_used s - i).toNatClampNeg) ?_ _ _ ⟨⟨by decide, hu.1⟩, hg, MStep.refl s, fun x a b => by clear hg; grind⟩
  rintro i s1 ⟨h1, hg1, hs, hm⟩
  simp only [M_Mo_collection_L30, M_Mo_collection_j61, ok_B, ok_C, ok_R, ok_L, ok_K, ok_GI, ok_GL, ok_PI, ok_PL, ok_AI, ok_AL, ok_SI, ok_SL, ok_Pr, ok_CI, cmp_lt, cmp_le, cmp_gt, cmp_ge, cmp_eq, nar0, nar1, Sum.elim_inl, Sum.elim_inr]
  simp only [a_sort, a_tag, a_first, a_second, a_third, a_chain, a_free, a_text, a_heads, a_ek, a_ev, a_vk, a_vv, a_follow, a_bucket, a_registers, f_used, v_variable_k, v_variable_v, v_stack_k, v_stack_v, v_row_k, v_row_v, v_start_n, v_start_k, v_start_v, t_place, t_frames, t_openCount, t_open, t_kind, t_function, t_base, t_extra, t_rowCount, p_ek, p_vk, p_ev, p_vv, p_follow, a_fixed, hs.A 5 (by decide), hs.A 20 (by decide), hs.A 23 (by decide), hs.A 26 (by decide), hs.A 29 (by decide), hs.A 30 (by decide), hs.A 31 (by decide), hs.A 32 (by decide), hs.A 33 (by decide), hs.A 34 (by decide), hs.A 35 (by decide), hs.A 36 (by decide), hs.A 44 (by decide), hs.A 58 (by decide), hs.A 60 (by decide), hs.A 61 (by decide), hs.A 62 (by decide), hs.A 63 (by decide), hs.A 64 (by decide), hs.A 65 (by decide), hs.A 66 (by decide), hs.A 67 (by decide), hs.A 68 (by decide), hs.A 69 (by decide), hs.A 70 (by decide), hs.A 73 (by decide), hs.B 6, hs.B 21, hs.B 24, hs.B 27, hs.B 71, hs.B 72, hs.I 40 (by decide), hs.I 3202 (by decide), hs.I 3584 (by decide), hs.I 3586 (by decide), hs.I 3587 (by decide), hs.I 8959 (by decide), hs.I 9087 (by decide), hs.I 9215 (by decide), hs.I 9343 (by decide), hs.I 9471 (by decide)] at *
  have n1 : ¬ gI s 40 0 ≤ i → (0 ≤ i ∧ i < 4100) ∧ i < gI s 40 0 ∧ (0 ≤ i + 1 ∧ i + 1 ≤ gI s 40 0) ∧ (gI s 40 0 - (i + 1)).toNatClampNeg < (gI s 40 0 - i).toNatClampNeg := fun c => by
    clear hm hs hg hg1
    exact ⟨by grind, by grind, by grind, clamp_lt (by grind) (by grind)⟩
  refine ⟨fun c => ⟨hg1, hs, fun x a b => hm x a (by clear hm hs hg hg1 n1; grind)⟩, fun c => ?_⟩
  obtain ⟨n1, n2, n3, n4⟩ := n1 c
  have nx : ∀ x, x < i + 1 → x = i ∨ x < i := fun x z => by clear hm hs hg hg1; grind
  refine ⟨n1, fun d => ⟨⟨n3, hg1, hs, fun x a b e => ?_⟩, n4⟩, fun d => ⟨n1, fun e => ⟨⟨n3, hg1, hs, fun x a b f g => ?_⟩, n4⟩, fun e => ?_⟩⟩
  · rcases nx x b with y | y
    · subst y
      exact absurd d e
    · exact hm x a y e
  · rcases nx x b with y | y
    · subst y
      exact absurd e g
    · exact hm x a y f g
  · refine ok_mono (place_ok s1 _ hg1 ?_) fun _ s2 ⟨hg2, hs2, hk2⟩ => ⟨⟨n3, hg2, hs.trans hs2 hg.2.1, fun x a b f g => ?_⟩, n4⟩
    · show i < gI s1 40 0
      rw [hs.I 40 (by decide)]
      exact n2
    · rcases nx x b with y | y
      · subst y
        exact hk2 a
      · exact hs2.2.1 x (hm x a y f g)
/-- the threads that wait for one another, from the running one on -/
def chN (s : S1) : Nat → Int32
  | 0 => f_current s
  | n + 1 => if chN s n < 0 then -1 else t_resumer s (chN s n)
theorem chN_neg {s : S1} {n : Nat} (h : chN s n < 0) (k : Nat) : chN s (n + k) < 0 := by
  induction k with
  | zero => exact h
  | succ k ih =>
    show (if chN s (n + k) < 0 then -1 else t_resumer s (chN s (n + k))) < 0
    rw [if_pos ih]
    decide
theorem chN_cr {s s' : S1} (hs : Cr false s s') (n : Nat) : chN s' n = chN s n := by
  induction n with
  | zero => exact hs.I 72 (by decide) 0
  | succ n ih =>
    show (if chN s' n < 0 then -1 else gI s' 3590 (chN s' n)) = if chN s n < 0 then -1 else gI s 3590 (chN s n)
    rw [ih, hs.I 3590 (by decide)]
def Rk (ρ : Int32 → Nat) (s : S1) : Prop := ∀ t, 0 ≤ t → t < 33 → t_resumer s t ≠ -1 → 0 ≤ t_resumer s t ∧ t_resumer s t < 33 ∧ ρ (t_resumer s t) < ρ t
theorem resumers_ok (s : S1) (ρ : Int32 → Nat) (hk : Rk ρ s) (hc : 0 ≤ f_current s ∧ f_current s < 33) (hg : Grey s) (hp : ∀ n, 0 ≤ chN s n → Lv false s (t_place s (chN s n)) 7) :
    ok (oW M_Mo_collection_L104 (f_current s)) s (fun _ s' => Grey s' ∧ MStep s s' ∧ ∀ n, 0 ≤ chN s (n + 1) → Lv true s' (t_place s (chN s (n + 1))) 7) := by
  refine ok_W (fun t s' => (0 ≤ t ∧ t < 33) ∧ Grey s' ∧ MStep s s' ∧ ∃ n, t = chN s n ∧ ∀ j, j < n → 0 ≤ chN s (j + 1) → Lv true s' (t_place s (chN s (j + 1))) 7) (fun t _ => ρ t) ?_ _ _ ⟨hc, hg, MStep.refl s, 0, rfl, fun j h => by omega⟩
  rintro t s1 ⟨ht, hg1, hs, n, en, hm⟩
  simp only [M_Mo_collection_L104, ok_B, ok_C, ok_R, ok_L, ok_K, ok_GI, ok_GL, ok_PI, ok_PL, ok_AI, ok_AL, ok_SI, ok_SL, ok_Pr, ok_CI, cmp_lt, cmp_le, cmp_gt, cmp_ge, cmp_eq, nar0, nar1, Sum.elim_inl, Sum.elim_inr]
  have e1 : gI s1 3590 t = t_resumer s t := hs.I 3590 (by decide) t
  rw [e1]
  have hnn : ¬ chN s n < 0 := by rw [← en]; have := ht.1; clear hm hs hg hg1 hp; grind
  have es : chN s (n + 1) = t_resumer s t := by
    show (if chN s n < 0 then -1 else t_resumer s (chN s n)) = _
    rw [if_neg hnn, en]
  refine ⟨ht, fun c => ⟨hg1, hs, fun j hj => ?_⟩, fun c => ?_⟩
  · by_cases hjn : j < n
    · exact hm j hjn hj
    · exfalso
      have hneg : chN s (n + 1) < 0 := by
        rw [es, c]
        decide
      have := chN_neg hneg (j - n)
      rw [show n + 1 + (j - n) = j + 1 from by omega] at this
      clear hm hs hg hg1 hp
      grind
  · obtain ⟨k1, k2, k3⟩ := hk t ht.1 ht.2 c
    refine ⟨ht, ⟨k1, k2⟩, ?_⟩
    have hL := hp (n + 1) (by rw [es]; exact k1)
    rw [es] at hL
    have ep : gI s1 3584 (t_resumer s t) = t_place s (t_resumer s t) := hs.I 3584 (by decide) _
    rw [ep]
    refine ok_mono (place_ok s1 _ hg1 (hL.step hs).2.1) fun _ s2 ⟨hg2, hs2, hk2⟩ => ?_
    have hs02 := hs.trans hs2 hg.2.1
    have e2 : gI s2 3590 t = t_resumer s t := hs02.I 3590 (by decide) t
    rw [e2]
    refine ⟨ht, ⟨⟨k1, k2⟩, hg2, hs02, n + 1, es.symm, fun j hj a => ?_⟩, k3⟩
    by_cases hjn : j = n
    · subst hjn
      rw [es]
      exact hL.mk hs02 (hk2 hL.1)
    · exact (hm j (by omega) a).step hs2
