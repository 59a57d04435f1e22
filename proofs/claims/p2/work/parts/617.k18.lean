/-! The class: strings. -/
/-- size bytes of a row, from a place on -/
def cSrc (s : S1) (r : Nat) (i a n : Int32) : Prop := r ≠ 154 ∧ 0 ≤ a.toInt ∧ 0 ≤ n.toInt ∧ a.toInt + n.toInt ≤ lnS s r i ∧ lnS s r i ≤ 400000
theorem len_toInt {k : Nat} (h : k ≤ 400000) : (Int32.ofNat k).toInt = k := ofNat_toInt (by omega)
theorem hash_ok {s : S1} {r : Nat} {i a n : Int32} (h : cSrc s r i a n) (m : Nat × Nat) (h0 : Int32) : ok (oW M_He_intern_L15 (r, i, a, n, h0, 0, m)) s (fun e s' => s' = s ∧ ∃ x, e = (r, i, a, n, x, m)) := by
  have e0 : (0 : Int32).toInt = 0 := rfl
  have e1 : (1 : Int32).toInt = 1 := rfl
  obtain ⟨-, ha, hn, hl, hm⟩ := h
  refine ok_W (fun y s' => s' = s ∧ (y.1 = r ∧ y.2.1 = i ∧ y.2.2.1 = a ∧ y.2.2.2.1 = n ∧ y.2.2.2.2.2.2 = m) ∧ 0 ≤ y.2.2.2.2.2.1.toInt ∧ y.2.2.2.2.2.1.toInt ≤ n.toInt) (fun y _ => (n.toInt - y.2.2.2.2.2.1.toInt).toNat) ?_ _ _ ⟨rfl, ⟨rfl, rfl, rfl, rfl, rfl⟩, by dsimp only; omega, by dsimp only; omega⟩
  rintro ⟨r', i', a', n', h', k, m'⟩ s1 ⟨rfl, ⟨rfl, rfl, rfl, rfl, rfl⟩, k0, k1⟩
  dsimp only at k0 k1 ha hn hl hm
  have hm' := len_toInt hm
  simp only [M_He_intern_L15, ok_B, ok_C, ok_R, ok_L, ok_K, ok_GI, ok_GL, ok_PI, ok_PL, ok_AI, ok_AL, ok_SI, ok_SL, ok_CI, cmp_lt, cmp_le, cmp_gt, cmp_ge, cmp_eq, nar0, nar1, Sum.elim_inl, Sum.elim_inr, ok_PzT, ok_PzC, ok_PzP, ok_PrC, ok_PrP, ok_PrF, ok_PrN, ok_Ln, ok_CL, ok_Nw, ok_S, ok_Ks, ok_Nz]
  refine ⟨fun _ => ⟨by trivial, h', rfl⟩, fun c => ?_⟩
  rw [i32_le] at c
  have ek : (k + 1).toInt = k.toInt + 1 := by rw [ktI_add] <;> omega
  have ea : (a' + k).toInt = a'.toInt + k.toInt := by rw [ktI_add] <;> omega
  refine ⟨⟨by rw [i32_le]; omega, by rw [i32_lt]; omega⟩, ⟨by trivial, ⟨by trivial, by trivial, by trivial, by trivial, by trivial⟩, ?_, ?_⟩, ?_⟩
  · rw [ek]; omega
  · rw [ek]; omega
  · rw [ek]; omega
theorem isSame_ok {s : S1} {r : Nat} {i a n x : Int32} (h : cSrc s r i a n) (hx : lnS s 146 x ≤ 400000) : ok (M_He_isSame x r i a n) s (fun _ s' => s' = s) := by
  have e0 : (0 : Int32).toInt = 0 := rfl
  have e1 : (1 : Int32).toInt = 1 := rfl
  obtain ⟨-, ha, hn, hl, hm⟩ := h
  have hm' := len_toInt hm
  have hx' := len_toInt hx
  simp only [M_He_isSame, ok_B, ok_C, ok_R, ok_L, ok_K, ok_GI, ok_GL, ok_PI, ok_PL, ok_AI, ok_AL, ok_SI, ok_SL, ok_CI, cmp_lt, cmp_le, cmp_gt, cmp_ge, cmp_eq, nar0, nar1, Sum.elim_inl, Sum.elim_inr, ok_PzT, ok_PzC, ok_PzP, ok_PrC, ok_PrP, ok_PrF, ok_PrN, ok_Ln, ok_CL, ok_Nw, ok_S, ok_Ks, ok_Nz]
  refine ⟨fun c => ?_, fun _ => by trivial⟩
  have c' : (lnS s 146 x : Int) = n.toInt := by rw [← c, hx']
  refine ok_W (fun y s' => s' = s ∧ (y.1 = x ∧ y.2.1 = r ∧ y.2.2.1 = i ∧ y.2.2.2.1 = a ∧ y.2.2.2.2.1 = n) ∧ 0 ≤ y.2.2.2.2.2.toInt ∧ y.2.2.2.2.2.toInt ≤ n.toInt) (fun y _ => (n.toInt - y.2.2.2.2.2.toInt).toNat) ?_ _ _ ⟨rfl, ⟨rfl, rfl, rfl, rfl, rfl⟩, by dsimp only; omega, by dsimp only; omega⟩
  rintro ⟨x', r', i', a', n', k⟩ s1 ⟨rfl, ⟨rfl, rfl, rfl, rfl, rfl⟩, k0, k1⟩
  dsimp only at k0 k1 ha hn hl hm c' hx' hm'
  simp only [M_He_isSame_L11, ok_B, ok_C, ok_R, ok_L, ok_K, ok_GI, ok_GL, ok_PI, ok_PL, ok_AI, ok_AL, ok_SI, ok_SL, ok_CI, cmp_lt, cmp_le, cmp_gt, cmp_ge, cmp_eq, nar0, nar1, Sum.elim_inl, Sum.elim_inr, ok_PzT, ok_PzC, ok_PzP, ok_PrC, ok_PrP, ok_PrF, ok_PrN, ok_Ln, ok_CL, ok_Nw, ok_S, ok_Ks, ok_Nz]
  refine ⟨fun _ => by trivial, fun c => ?_⟩
  rw [i32_le] at c
  have ek : (k + 1).toInt = k.toInt + 1 := by rw [ktI_add] <;> omega
  have ea : (a' + k).toInt = a'.toInt + k.toInt := by rw [ktI_add] <;> omega
  refine ⟨⟨by rw [i32_le]; omega, by rw [i32_lt]; omega⟩, ⟨by rw [i32_le]; omega, by rw [i32_lt]; omega⟩, fun _ => ⟨⟨by trivial, ⟨by trivial, by trivial, by trivial, by trivial, by trivial⟩, ?_, ?_⟩, ?_⟩, fun _ => by trivial⟩
  · rw [ek]; omega
  · rw [ek]; omega
  · rw [ek]; omega
theorem cHw.bl {s : S1} {a b c : Nat} (h : cHw s a b c) {x : Int32} (hx : pT s x) (hf : cBf s x = 1) : lnS s 146 x ≤ 400000 ∧ ((lnS s 146 x : Nat) : Int) = (cBl s x).toInt := by
  have w : 0 ≤ (cBl s x).toInt ∧ (cBl s x).toInt ≤ 400000 := (h.2.2.2.2 x hx.1.1 hx.1.2).2.2 hf
  have e : lnS s 146 x = (cBl s x).toNatClampNeg := by
    unfold lnS
    rw [if_pos (by decide)]
  rw [e]
  unfold Int32.toNatClampNeg
  omega
theorem search_ok {s : S1} {r : Nat} {i a n : Int32} (H : cHI s) {m e : Nat × Nat} (R : cRo s m e) (h : cSrc s r i a n) (hs : Int32) (m' : Nat × Nat) (bu : Int32) (hb : 0 ≤ bu ∧ bu < 4096) : ok (oW M_He_intern_L67 (r, i, a, n, hs, bu, cBk s bu, 0, m')) s (fun y s' => s' = s ∧ ((∃ x, y = .inl (x, m') ∧ cLv false s x 4) ∨ y = .inr (r, i, a, n, hs, bu, m'))) := by
  have e0 : (0 : Int32).toInt = 0 := rfl
  have e1 : (1 : Int32).toInt = 1 := rfl
  have e4 : (4000 : Int32).toInt = 4000 := rfl
  obtain ⟨-, wa, wb, wc, hw, -⟩ := R
  have ls := H.2.2.1 bu hb.1 hb.2
  refine ok_W (fun y s' => s' = s ∧ (y.1 = r ∧ y.2.1 = i ∧ y.2.2.1 = a ∧ y.2.2.2.1 = n ∧ y.2.2.2.2.1 = hs ∧ y.2.2.2.2.2.1 = bu ∧ y.2.2.2.2.2.2.2.2 = m') ∧ (0 ≤ y.2.2.2.2.2.2.1 → cBm s bu y.2.2.2.2.2.2.1) ∧ 0 ≤ y.2.2.2.2.2.2.2.1.toInt ∧ y.2.2.2.2.2.2.2.1.toInt ≤ 4000) (fun y _ => (4000 - y.2.2.2.2.2.2.2.1.toInt).toNat) ?_ _ _ ⟨rfl, ⟨rfl, rfl, rfl, rfl, rfl, rfl, rfl⟩, ls.1, by dsimp only; omega, by dsimp only; omega⟩
  rintro ⟨r', i', a', n', h', b', x, k, m2⟩ s1 ⟨rfl, ⟨rfl, rfl, rfl, rfl, rfl, rfl, rfl⟩, hx, k0, k1⟩
  dsimp only at hx k0 k1 h ls hb
  simp only [M_He_intern_L67, M_He_intern_j117, ok_B, ok_C, ok_R, ok_L, ok_K, ok_GI, ok_GL, ok_PI, ok_PL, ok_AI, ok_AL, ok_SI, ok_SL, ok_CI, cmp_lt, cmp_le, cmp_gt, cmp_ge, cmp_eq, nar0, nar1, Sum.elim_inl, Sum.elim_inr, ok_PzT, ok_PzC, ok_PzP, ok_PrC, ok_PrP, ok_PrF, ok_PrN, ok_Ln, ok_CL, ok_Nw, ok_S, ok_Ks, ok_Nz]
  refine ⟨fun c => ⟨by trivial, .inr (by trivial)⟩, fun c => ⟨fun d => ⟨by trivial, .inr (by trivial)⟩, fun d => ?_⟩⟩
  have x0 : 0 ≤ x := by
    rw [i32_lt] at c
    rw [i32_le]
    omega
  have mx := hx x0
  have px := H.1.2 x mx.1.1.1 mx.1.1.2
  have bf := (H.2.1 x mx.1.1.1 mx.1.1.2).2.1.1 mx.1.2.1
  rw [i32_le] at d
  have ek : (k + 1).toInt = k.toInt + 1 := by rw [ktI_add] <;> omega
  have nxt : (s1 = s1 ∧ (r' = r' ∧ i' = i' ∧ a' = a' ∧ n' = n' ∧ h' = h' ∧ b' = b' ∧ m2 = m2) ∧ (0 ≤ gI s1 18565 x → cBm s1 b' (gI s1 18565 x)) ∧ 0 ≤ (k + 1).toInt ∧ (k + 1).toInt ≤ 4000) ∧ (4000 - (k + 1).toInt).toNat < (4000 - k.toInt).toNat := by
    refine ⟨⟨rfl, ⟨rfl, rfl, rfl, rfl, rfl, rfl, rfl⟩, fun q => (ls.2.2.1 x mx q).1, ?_, ?_⟩, ?_⟩
    · rw [ek]; omega
    · rw [ek]; omega
    · rw [ek]; omega
  simp only [true_and, and_true, and_self] at nxt
  refine ⟨px, fun _ => ⟨px, bf, ?_⟩, fun _ => ⟨px, ?_⟩⟩
  · refine ok_mono (isSame_ok h (hw.bl px bf).1) ?_
    rintro v s2 rfl
    refine ⟨fun _ => ⟨px, ?_⟩, fun _ => ⟨by trivial, .inl ⟨x, rfl, mx.1⟩⟩⟩
    simp only [true_and, and_true, and_self]
    exact nxt
  · simp only [true_and, and_true, and_self]
    exact nxt
