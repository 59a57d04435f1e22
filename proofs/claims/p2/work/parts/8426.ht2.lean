/-! A string that could not be made tells an error. -/
theorem ht_SI (a : Nat) (n i j x : Int32) (s : S1) (Q : Unit → S1 → Prop) : ht (oSI a n i j x) s Q ↔ ((0 ≤ j ∧ j < n) → Q () (sA s a i j x)) := ht_ifs rfl Q
theorem ht_Pr (r : Nat) (i : Int32) (s : S1) (Q : Unit → S1 → Prop) : ht (oPr r i) s Q ↔ (((dyF r = true → gI s (128 * r + 127) i = 1) ∧ 0 ≤ i ∧ i.toNatClampNeg < cnF r) → Q () s) := ht_ifs rfl Q
theorem str46_ht (s : S1) (x : Nat × Int32 × Int32 × Int32 × Int32 × Int32 × Int32 × Int32) : ht (oW M_Mo_string_L46 x) s (fun e _ => e.2.2.2.2.2.1 = x.2.2.2.2.2.1) := by
  refine ht_W (fun y _ => y.2.2.2.2.2.1 = x.2.2.2.2.2.1) ?_ x s rfl
  rintro ⟨y1, y2, y3, y4, y5, y6, y7, y8⟩ s1 e
  dsimp only at e
  simp only [M_Mo_string_L46, M_Mo_string_j86, ht_B, ht_R, ht_C, ht_AI, Sum.elim_inl, Sum.elim_inr]
  exact ⟨fun _ => e, fun _ => ⟨fun _ => e, fun _ _ _ _ => ⟨fun _ => e, fun _ => e⟩⟩⟩
theorem str41_ht (s : S1) (r : Nat) (a b c d l k : Int32) (hl : 0 ≤ l) : ht (M_Mo_string_j41 r a b c d l k) s (fun y _ => Sum.elim (fun _ => True) (fun e => Sum.elim (fun z => 0 ≤ z) (fun _ => True) e) y) := by
  unfold M_Mo_string_j41
  rw [ht_B]
  refine ht_mono (str46_ht s _) fun e s1 w => ?_
  dsimp only at w
  rw [w]
  simp only [M_Mo_string_j94, ht_B, ht_R, ht_C, ht_AI, ht_L, Sum.elim_inl, Sum.elim_inr]
  exact ⟨fun _ _ => trivial, fun _ => hl⟩
theorem str20_ht (s : S1) (x : Nat × Int32 × Int32 × Int32 × Int32 × Int32) : ht (oW M_Mo_string_L20 x) s (fun e _ => Sum.elim (fun z => 0 ≤ z) (fun _ => True) e) := by
  refine ht_W (fun _ _ => True) ?_ x s trivial
  rintro ⟨y1, y2, y3, y4, y5, y6⟩ s1 _
  unfold M_Mo_string_L20
  rw [ht_C]
  refine ⟨fun _ => ?_, fun c => ?_⟩
  · rw [ht_R]
    trivial
  · rw [ht_B, ht_AI]
    intro _
    rw [ht_C]
    exact ⟨fun _ => str41_ht s1 _ _ _ _ _ _ _ (Int32.not_lt.mp c), fun _ => str41_ht s1 _ _ _ _ _ _ _ (Int32.not_lt.mp c)⟩
theorem string_er (s : S1) (r : Nat) (u a n : Int32) : ht (M_Mo_string r u a n) s (fun v s' => v < 0 → Er s') := by
  unfold M_Mo_string
  rw [ht_B]
  refine ht_any fun v s1 => ?_
  rw [ht_B]
  refine ht_any fun _ s2 => ?_
  rw [ht_B, ht_AI]
  intro _
  rw [ht_L, ht_B]
  refine ht_mono (str20_ht s2 _) fun e s3 w => ?_
  rcases e with y | y
  · simp only [Sum.elim_inl] at w ⊢
    rw [ht_R]
    exact fun z => absurd (Int32.lt_of_le_of_lt w z) Int32.lt_irrefl
  · simp only [Sum.elim_inr]
    rw [ht_B, ht_GI, ht_C]
    refine ⟨fun _ => ?_, fun _ => ?_⟩
    · rw [ht_B]
      refine ht_mono (may_er s3 0) fun v4 s4 w4 => ?_
      rw [ht_B]
      intro _ s5 e5
      rw [ht_C]
      have es : s5 = s4 := by
        have := (ht_Pr y.1 y.2.1 s4 (fun _ s' => s' = s4)).mpr (fun _ => rfl)
        exact this _ _ e5
      refine ⟨fun c => ?_, fun _ => ?_⟩
      · rw [ht_R, es]
        exact fun _ => w4 c
      · rw [ht_B]
        refine ht_any fun x s6 => ?_
        rw [ht_B]
        refine ht_any fun _ s7 => ?_
        rw [ht_B, ht_GI, ht_B]
        refine ht_any fun _ s8 => ?_
        rw [ht_B, ht_GI, ht_B, ht_SI]
        intro hx
        rw [ht_B]
        refine ht_any fun _ s9 => ?_
        rw [ht_B, ht_GI, ht_B]
        refine ht_any fun _ s10 => ?_
        rw [ht_B, ht_GI, ht_B]
        refine ht_any fun _ s11 => ?_
        rw [ht_B]
        refine ht_any fun _ s12 => ?_
        rw [ht_B]
        refine ht_any fun _ s13 => ?_
        rw [ht_B]
        refine ht_any fun _ s14 => ?_
        rw [ht_R]
        exact fun z => absurd (Int32.lt_of_le_of_lt hx.1 z) Int32.lt_irrefl
    · rw [ht_B]
      refine ht_mono (raise_er s3 11) fun v4 s4 w4 => ?_
      rw [ht_B]
      intro _ s5 e5
      have es : s5 = s4 := by
        have := (ht_Pr y.1 y.2.1 s4 (fun _ s' => s' = s4)).mpr (fun _ => rfl)
        exact this _ _ e5
      rw [ht_R, es]
      exact fun _ => w4.2
/-- a string is made, and given -/
theorem strGive_bo (s : S1) (r : Nat) (u a n : Int32) (h : GG s) (hz : f_noCollection s = 0) (hh : v_hand_n s = 0) (hdy : dyF r = false) (hu : 0 ≤ u ∧ u.toNatClampNeg < cnF r) (ha : 0 ≤ a ∧ a ≤ 400000) (hn : 0 ≤ n ∧ n ≤ 400000) (hn6 : n ≤ 266667) (hl : a + n ≤ lnI r) (hl2 : lnI r ≤ 500000)
    (hr : (r ≠ 5 ∧ r ≠ 58 ∧ r ≠ 59 ∧ r ≠ 62 ∧ r ≠ 65 ∧ r ≠ 66 ∧ r ≠ 68 ∧ r ≠ 75) ∧ r ≠ 60 ∧ r ≠ 61) : ok (oB (M_Mo_string r u a n) fun v => oC (v < 0) (oR ()) (oB (M_Mo_give 4 v.toInt64) fun _ => oR ())) s (fun _ s' => Bo s s') := by
  simp only [ok_B, ok_C, ok_R, ok_L, ok_K, ok_GI, ok_GL, ok_PI, ok_PL, ok_AI, ok_AL, ok_SI, ok_SL, ok_Pr, ok_CI, cmp_lt, cmp_le, cmp_gt, cmp_ge, cmp_eq, nar0, nar1, Sum.elim_inl, Sum.elim_inr]
  refine ok_mono ((string_x s r u a n h hdy hu ha hn hn6 hl hl2 hr).and (string_er s r u a n)) fun v s1 ⟨hx, er⟩ => ?_
  have k : Rx s s1 ∧ v_hand_n s1 = 0 ∧ (¬ v < 0 → Lv false s1 v 4) := by
    rcases hx with hd | ⟨es, hl⟩
    · have vk := Vk.mdx h hz hd
      refine ⟨vk.1, vk.2.1.trans hh, fun c => ?_⟩
      rcases hd.2 with ⟨e, _⟩ | ⟨s0, w0, w1, w2, w3, w4, w5⟩
      · rw [e] at c
        exact absurd (by decide) c
      · exact w5
    · subst es
      exact ⟨Rx.refl h hz, hh, fun _ => hl⟩
  obtain ⟨rx, hh1, lv⟩ := k
  exact ⟨fun c => ⟨rx, hh1, Or.inl (er c)⟩, fun c => ok_mono (give_bo s1 4 _ rx.1 rx.2.1 hh1 (Vl.of (lv c) ⟨by decide, by decide⟩ rx.1.used.2)) fun _ _ w => w.1.pre rx⟩
