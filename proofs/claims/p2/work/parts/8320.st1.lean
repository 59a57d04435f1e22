/-! Strings: the hash, the buckets' chains. -/
theorem and1023 (x : Int32) : 0 ≤ x &&& 1023 ∧ x &&& 1023 < 1024 := by
  have h : (x &&& 1023).toBitVec.toNat < 1024 := by
    rw [Int32.toBitVec_and, BitVec.toNat_and]
    exact Nat.lt_of_le_of_lt Nat.and_le_right (by decide)
  have e : (x &&& 1023).toInt = ((x &&& 1023).toBitVec.toNat : Int) := by
    rw [← Int32.toInt_toBitVec, BitVec.toInt_eq_toNat_of_lt (by omega)]
  have h0 : (0 : Int32).toInt = 0 := rfl
  have h1 : (1024 : Int32).toInt = 1024 := rfl
  rw [i32_le, i32_lt, e]
  omega
theorem add_toInt {a b : Int32} (ha : 0 ≤ a ∧ a ≤ 1000000) (hb : 0 ≤ b ∧ b ≤ 1000000) : (a + b).toInt = a.toInt + b.toInt := by
  rw [i32_le, i32_le] at ha hb
  have h0 : (0 : Int32).toInt = 0 := rfl
  have hm : (1000000 : Int32).toInt = 1000000 := rfl
  rw [Int32.toInt_add, Int.bmod_eq_of_le (by omega) (by omega)]
theorem add_in {a i n L : Int32} (ha : 0 ≤ a ∧ a ≤ 400000) (hi : 0 ≤ i) (hin : i < n) (hn : n ≤ 400000) (hl : a + n ≤ L) : 0 ≤ a + i ∧ a + i < L := by
  have k4 : (400000 : Int32).toInt = 400000 := rfl
  have k1 : (1000000 : Int32).toInt = 1000000 := rfl
  have h0 : (0 : Int32).toInt = 0 := rfl
  simp only [i32_le, i32_lt] at ha hi hin hn hl ⊢
  have e1 := add_toInt (a := a) (b := i) ⟨by rw [i32_le]; omega, by rw [i32_le]; omega⟩ ⟨by rw [i32_le]; omega, by rw [i32_le]; omega⟩
  have e2 := add_toInt (a := a) (b := n) ⟨by rw [i32_le]; omega, by rw [i32_le]; omega⟩ ⟨by rw [i32_le]; omega, by rw [i32_le]; omega⟩
  omega
def hN (s : S1) (r : Nat) (u a n : Int32) : Nat → Int32
  | 0 => n
  | k + 1 => 31 * hN s r u a n k + gA s r u (a + Int32.ofNat k)
def hF (s : S1) (r : Nat) (u a n : Int32) : Int32 := hN s r u a n n.toNatClampNeg &&& 1023
theorem hF_lt (s : S1) (r : Nat) (u a n : Int32) : 0 ≤ hF s r u a n ∧ hF s r u a n < 1024 := and1023 _
theorem q_hash_ok (s : S1) (r : Nat) (u a n : Int32) (ha : 0 ≤ a ∧ a ≤ 400000) (hn : 0 ≤ n ∧ n ≤ 400000) (hl : a + n ≤ lnI r) (hl2 : lnI r ≤ 500000) : ok (M_Mo_hash r u a n) s (fun v s' => v = hF s r u a n ∧ s' = s) := by
  simp only [M_Mo_hash, ok_B, ok_C, ok_R, ok_L, ok_K, ok_GI, ok_GL, ok_PI, ok_PL, ok_AI, ok_AL, ok_SI, ok_SL, ok_Pr, ok_CI, cmp_lt, cmp_le, cmp_gt, cmp_ge, cmp_eq, nar0, nar1, Sum.elim_inl, Sum.elim_inr]
  refine ok_mono (P := fun v s' => v = hN s r u a n n.toNatClampNeg ∧ s' = s) ?_ fun v s' h => ⟨by rw [h.1]; rfl, h.2⟩
  refine ok_W (fun y s' => (y.1 = r ∧ y.2.1 = u ∧ y.2.2.1 = a ∧ y.2.2.2.1 = n) ∧ (0 ≤ y.2.2.2.2.2 ∧ y.2.2.2.2.2 ≤ n) ∧ s' = s ∧ y.2.2.2.2.1 = hN s r u a n y.2.2.2.2.2.toNatClampNeg) (fun y _ => (n - y.2.2.2.2.2).toNatClampNeg) ?_ _ _ ⟨⟨rfl, rfl, rfl, rfl⟩, ⟨(show (0 : Int32) ≤ 0 by decide), hn.1⟩, rfl, rfl⟩
  rintro ⟨r', u', a', n', h, i⟩ s1 ⟨⟨e1, e2, e3, e4⟩, ⟨h1, h2⟩, es, eh⟩
  dsimp only at e1 e2 e3 e4 h1 h2 eh
  subst e1 e2 e3 e4 es
  simp only [M_Mo_hash_L6, ok_B, ok_C, ok_R, ok_L, ok_K, ok_GI, ok_GL, ok_PI, ok_PL, ok_AI, ok_AL, ok_SI, ok_SL, ok_Pr, ok_CI, cmp_lt, cmp_le, cmp_gt, cmp_ge, cmp_eq, nar0, nar1, Sum.elim_inl, Sum.elim_inr]
  refine ⟨fun c => ?_, fun c => ⟨?_, ⟨⟨by trivial, by trivial, by trivial, by trivial⟩, ⟨?_, ?_⟩, by trivial, ?_⟩, ?_⟩⟩
  · have : i = n' := by clear eh hl hl2; grind
    rw [eh, this]
    exact ⟨by trivial, by trivial⟩
  · exact add_in ha h1 (Int32.not_le.mp c) hn.2 hl
  · clear eh hl hl2
    grind
  · clear eh hl hl2
    grind
  · rw [clamp_succ h1 (by clear eh hl hl2; grind), eh]
    show _ = 31 * hN s1 r' u' a' n' i.toNatClampNeg + gA s1 r' u' (a' + Int32.ofNat i.toNatClampNeg)
    rw [q_ofNat_clamp h1]
  · clear eh hl hl2
    exact clamp_lt (by grind) (by grind)
theorem hN_congr {s s' : S1} {r : Nat} {u a n : Int32} (h : ∀ j, gA s' r u j = gA s r u j) (k : Nat) : hN s' r u a n k = hN s r u a n k := by
  induction k with
  | zero => rfl
  | succ k ih =>
    show 31 * hN s' r u a n k + gA s' r u _ = 31 * hN s r u a n k + gA s r u _
    rw [ih, h]
theorem hF_congr {s s' : S1} {r : Nat} {u a n : Int32} (h : ∀ j, gA s' r u j = gA s r u j) : hF s' r u a n = hF s r u a n := by
  unfold hF
  rw [hN_congr h]
/-- x is a string of bucket h -/
def Sg (s : S1) (x h : Int32) : Prop := 0 ≤ x ∧ x < f_used s ∧ a_sort s x = 4 ∧ hF s 67 0 (a_first s x) (a_second s x) = h
def StS (s : S1) (x : Int32) : Prop := a_sort s x = 4 → 0 ≤ a_first s x ∧ 0 ≤ a_second s x ∧ a_first s x ≤ 400000 ∧ a_second s x ≤ 400000 ∧ a_first s x + a_second s x ≤ f_textMade s
def H1 (s : S1) : Prop := ∀ h, 0 ≤ h → h < 1024 → 0 ≤ a_heads s h ∧ (a_heads s h ≠ 0 → Sg s (a_heads s h - 1) h) ∧ ∀ x, Sg s x h → a_heads s h ≠ 0 ∧ a_tag s x ≤ a_tag s (a_heads s h - 1)
def H2 (s : S1) : Prop := ∀ x h, Sg s x h → 0 ≤ a_chain s x ∧ 0 ≤ a_tag s x ∧ (a_chain s x ≠ 0 → Sg s (a_chain s x - 1) h ∧ a_tag s (a_chain s x - 1) < a_tag s x)
def H3 (s : S1) : Prop := ∀ x y h, Sg s x h → Sg s y h → a_tag s x < a_tag s y → a_chain s y ≠ 0 ∧ a_tag s x ≤ a_tag s (a_chain s y - 1)
def H4 (s : S1) : Prop := ∀ x y h h', Sg s x h → Sg s y h' → a_tag s x = a_tag s y → x = y
def Str (s : S1) : Prop := (0 ≤ f_textMade s ∧ f_textMade s ≤ 400000) ∧ (∀ x, 0 ≤ x → x < f_used s → StS s x) ∧ H1 s ∧ H2 s ∧ H3 s ∧ H4 s
theorem Sg.fn {s : S1} {x h h' : Int32} (a : Sg s x h) (b : Sg s x h') : h = h' := a.2.2.2.symm.trans b.2.2.2
/-- x is taken out of its bucket -/
def Unc (s s' : S1) (x h : Int32) : Prop := (a_heads s h = x + 1 ∧ s' = sA s 68 0 h (a_chain s x)) ∨ ∃ y, Sg s y h ∧ y ≠ x ∧ a_chain s y = x + 1 ∧ s' = sA s 65 0 y (a_chain s x)
theorem unchain_ok (s : S1) (x h : Int32) (hu : f_used s ≤ 4100) (hs : Str s) (hx : Sg s x h) : ok (M_Mo_unchain x) s (fun _ s' => Unc s s' x h) := by
  obtain ⟨t1, t2, t3, t4, t5, t6⟩ := hs
  have b := t2 x hx.1 hx.2.1 hx.2.2.1
  have hx1 : 0 ≤ x ∧ x < 4100 := by have := hx.1; have := hx.2.1; clear t2 t3 t4 t5 t6 hx; grind
  have hh : 0 ≤ h ∧ h < 1024 := by rw [← hx.2.2.2]; exact hF_lt _ _ _ _ _
  simp only [M_Mo_unchain, ok_B, ok_C, ok_R, ok_L, ok_K, ok_GI, ok_GL, ok_PI, ok_PL, ok_AI, ok_AL, ok_SI, ok_SL, ok_Pr, ok_CI, cmp_lt, cmp_le, cmp_gt, cmp_ge, cmp_eq, nar0, nar1, Sum.elim_inl, Sum.elim_inr]
  refine ⟨hx1, hx1, ?_⟩
  refine ok_mono (q_hash_ok s 67 0 _ _ ⟨b.1, b.2.2.1⟩ ⟨b.2.1, b.2.2.2.1⟩ ?_ (by decide)) fun v s1 ⟨ev, es⟩ => ?_
  · show a_first s x + a_second s x ≤ (400000 : Int32)
    have := b.2.2.2.2
    clear t2 t3 t4 t5 t6 hx
    grind
  have ev' : v = h := ev.trans hx.2.2.2
  subst ev' es
  clear ev
  obtain ⟨p1, p2, p3⟩ := t3 v hh.1 hh.2
  obtain ⟨p4, p5⟩ := p3 x hx
  have p6 := p2 p4
  refine ⟨hh, fun c => ⟨hx1, hh, Or.inl ⟨?_, by trivial⟩⟩, fun c => ?_⟩
  · simp only [a_sort, a_tag, a_first, a_second, a_third, a_chain, a_free, a_text, a_heads, a_ek, a_ev, a_vk, a_vv, a_follow, a_bucket, a_registers, f_used, v_variable_k, v_variable_v, v_stack_k, v_stack_v, v_row_k, v_row_v, v_start_n, v_start_k, v_start_v, t_place, t_frames, t_openCount, t_open, t_kind, t_function, t_base, t_extra, t_rowCount, p_ek, p_vk, p_ev, p_vv, p_follow] at *
    clear t2 t3 t4 t5 t6 hx p2 p3 p6
    grind
  have nx : ∀ y, Sg s1 y v → 0 ≤ y ∧ y < 4100 := fun y hy => by have := hy.1; have := hy.2.1; clear t2 t3 t4 t5 t6 hx p2 p3 p6; grind
  refine ok_mono (P := fun z s' => s' = s1 ∧ z.1 = x ∧ Sg s1 z.2 v ∧ z.2 ≠ x ∧ a_chain s1 z.2 = x + 1) ?_ ?_
  · refine ok_W (fun z s' => s' = s1 ∧ z.1 = x ∧ Sg s1 z.2 v ∧ a_tag s1 x < a_tag s1 z.2) (fun z _ => (a_tag s1 z.2).toNatClampNeg) ?_ _ _ ⟨rfl, rfl, p6, ?_⟩
    · rintro ⟨x', y⟩ s2 ⟨e1, e2, hy, ht⟩
      dsimp only at e2 hy ht
      subst e1 e2
      simp only [M_Mo_unchain_L48, ok_B, ok_C, ok_R, ok_L, ok_K, ok_GI, ok_GL, ok_PI, ok_PL, ok_AI, ok_AL, ok_SI, ok_SL, ok_Pr, ok_CI, cmp_lt, cmp_le, cmp_gt, cmp_ge, cmp_eq, nar0, nar1, Sum.elim_inl, Sum.elim_inr]
      have hyx : y ≠ x' := fun z => by subst z; clear t2 t3 t4 t5 t6 hx p2 p3 p6 nx; grind
      obtain ⟨c1, c2, c3⟩ := t4 y v hy
      obtain ⟨d1, d2⟩ := t5 x' y v hx hy ht
      obtain ⟨d3, d4⟩ := c3 d1
      have ny := nx y hy
      refine ⟨ny, fun e => ⟨by trivial, by trivial, hy, hyx, ?_⟩, fun e => ⟨ny, ⟨by trivial, by trivial, d3, ?_⟩, ?_⟩⟩
      · simp only [a_sort, a_tag, a_first, a_second, a_third, a_chain, a_free, a_text, a_heads, a_ek, a_ev, a_vk, a_vv, a_follow, a_bucket, a_registers, f_used, v_variable_k, v_variable_v, v_stack_k, v_stack_v, v_row_k, v_row_v, v_start_n, v_start_k, v_start_v, t_place, t_frames, t_openCount, t_open, t_kind, t_function, t_base, t_extra, t_rowCount, p_ek, p_vk, p_ev, p_vv, p_follow] at *
        clear t2 t3 t4 t5 t6 hx p2 p3 p6 hy c3 d3 nx
        grind
      · have := t6 x' (a_chain s2 y - 1) v v hx d3
        simp only [a_sort, a_tag, a_first, a_second, a_third, a_chain, a_free, a_text, a_heads, a_ek, a_ev, a_vk, a_vv, a_follow, a_bucket, a_registers, f_used, v_variable_k, v_variable_v, v_stack_k, v_stack_v, v_row_k, v_row_v, v_start_n, v_start_k, v_start_v, t_place, t_frames, t_openCount, t_open, t_kind, t_function, t_base, t_extra, t_rowCount, p_ek, p_vk, p_ev, p_vv, p_follow] at *
        clear t2 t3 t4 t5 t6 hx p2 p3 p6 hy c3 d3 nx
        grind
      · have := (t4 (a_chain s2 y - 1) v d3).2.1
        exact clamp_lt this d4
    · have := t6 x (a_heads s1 v - 1) v v hx p6
      simp only [a_sort, a_tag, a_first, a_second, a_third, a_chain, a_free, a_text, a_heads, a_ek, a_ev, a_vk, a_vv, a_follow, a_bucket, a_registers, f_used, v_variable_k, v_variable_v, v_stack_k, v_stack_v, v_row_k, v_row_v, v_start_n, v_start_k, v_start_v, t_place, t_frames, t_openCount, t_open, t_kind, t_function, t_base, t_extra, t_rowCount, p_ek, p_vk, p_ev, p_vv, p_follow] at *
      clear t2 t3 t4 t5 t6 hx p2 p3 p6 nx
      grind
  · rintro ⟨x', y⟩ s2 ⟨e1, e2, hy, hyx, hc⟩
    dsimp only at e2 hy hyx hc ⊢
    subst e1 e2
    exact ⟨hx1, nx y hy, Or.inr ⟨y, hy, hyx, hc, by trivial⟩⟩
