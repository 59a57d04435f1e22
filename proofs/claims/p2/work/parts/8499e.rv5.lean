/-! The reference: feed. -/
theorem Vz.le {s : S1} {n e e' : Nat × Nat} (h : Vz s n e) (h1 : e'.1 ≤ e.1) (h2 : e'.2 ≤ e.2) : Vz s n e' := by
  obtain ⟨a, b, c, d, ⟨m1, m2⟩, f⟩ := h
  exact ⟨a, b, c, d, ⟨by omega, by omega⟩, f⟩
theorem Vz.room {s : S1} {n m e e' : Nat × Nat} (h : Vz s n e) (h1 : m.1 + e.1 = n.1 + e'.1) (h2 : m.2 + e.2 = n.2 + e'.2) : Vz s m e' := by
  obtain ⟨a, b, c, d, ⟨m1, m2⟩, f⟩ := h
  exact ⟨a, b, c, d, ⟨by omega, by omega⟩, f⟩
theorem i4 : ∀ k, k < 20 → (0 : Int32) ≤ Int32.ofNat k / 4 ∧ Int32.ofNat k / 4 < 5 := by decide
def fdI (s : S1) (m : Nat × Nat) (y : Int32 × Int32 × (Nat × Nat)) (t : S1) : Prop := y.2.2 = m ∧ (∃ k : Nat, k ≤ 20 ∧ y.2.1 = Int32.ofNat k ∧ (f_size t).toInt = (f_size s).toInt + k) ∧ Rb s t ∧ f_chunk t = f_chunk s
def fdP (s : S1) (m : Nat × Nat) (r : Nat × Nat) (t : S1) : Prop := r = m ∧ (f_size t).toInt = (f_size s).toInt + 20 ∧ Rb s t ∧ f_chunk t = f_chunk s
theorem rfeedL {s : S1} {m : Nat × Nat} (h0 : 0 ≤ (f_size s).toInt) (h1 : (f_size s).toInt ≤ 65516) : ok (oW M_Mo_feed_L60 (0, 0, m)) s (fdP s m) := by
  have e0 : (0 : Int32).toInt = 0 := rfl
  have e1 : (1 : Int32).toInt = 1 := rfl
  have e20 : (20 : Int32).toInt = 20 := rfl
  have e6 : (65536 : Int32).toInt = 65536 := rfl
  refine ok_W (fdI s m) (fun y _ => (20 - y.2.1.toInt).toNat) ?_ (0, 0, m) s ⟨rfl, ⟨0, by omega, rfl, by omega⟩, Rb.refl s, rfl⟩
  rintro ⟨x, i, m'⟩ t ⟨em, ⟨k, k20, ek, sz⟩, rb, ch⟩
  dsimp only at em ek
  rw [em, ek]
  have ok' : (Int32.ofNat k).toInt = k := oI (by omega)
  simp only [M_Mo_feed_L60, ok_B, ok_C, ok_R, ok_L, ok_K, ok_GI, ok_GL, ok_PI, ok_PL, ok_AI, ok_AL, ok_SI, ok_SL, ok_Pr, ok_CI, cmp_lt, cmp_le, cmp_gt, cmp_ge, cmp_eq, nar0, nar1, Sum.elim_inl, Sum.elim_inr]
  refine ⟨fun c => ?_, fun c => ?_⟩
  · rw [i32_le, ok', e20] at c
    have : k = 20 := by omega
    exact ⟨rfl, by rw [this] at sz; exact sz, rb, ch⟩
  · rw [i32_le, ok', e20] at c
    have ek1 : Int32.ofNat k + 1 = Int32.ofNat (k + 1) := toInt_inj (by rw [ktI_add, ok', oI (by omega), e1]; omega; rw [ok', e1]; omega)
    have es : (gI t 1 0 + 1).toInt = (gI t 1 0).toInt + 1 := by
      unfold f_size at sz h0 h1
      rw [ktI_add] <;> omega
    unfold f_size at sz h0 h1
    refine ⟨i4 k (by omega), ⟨by rw [i32_le]; omega, by rw [i32_lt]; omega⟩, ?_⟩
    rw [ek1]
    refine ⟨⟨rfl, ⟨k + 1, by omega, rfl, ?_⟩, rb.trans ⟨fun f j q => ?_, fun _ _ _ => rfl, fun a j l q => ?_, fun _ _ _ _ => rfl⟩, ?_⟩, by rw [oI (by omega), ok']; omega⟩
    · unfold f_size
      show (gI (sI t 1 0 (gI t 1 0 + 1)) 1 0).toInt = _
      rw [gI_sI, if_pos ⟨rfl, rfl⟩]
      omega
    · show gI (sI t 1 0 (gI t 1 0 + 1)) f j = _
      rw [gI_sI, if_neg (fun z => q.1 z.1)]
    · show gA (sA _ 41 0 _ _) a j l = _
      rw [gA_sA, if_neg (fun z => q.1 z.1)]
      rfl
    · unfold f_chunk
      show gI (sI t 1 0 (gI t 1 0 + 1)) 5 0 = _
      rw [gI_sI, if_neg (fun z => absurd z.1 (by decide))]
      exact ch
def vlR (e : Nat × Nat) (r : Int32 × (Nat × Nat)) (t : S1) : Prop := Vz t r.2 e
theorem rfeed_ok {s : S1} {n e : Nat × Nat} (h : Vz s n (e.1 + 1, e.2 + 5)) (a b c d f : Int32) : ok (M_Mo_feed n a b c d f) s (vlR e) := by
  have e5 : (5 : Int32).toNatClampNeg = 5 := by decide
  have j22 : ∀ k : Int32, (k = 0 ∨ k = 1) → (k = 0 → (f_size (sI s 2 0 0)).toInt ≤ 65516) → ok (M_Mo_feed_j22 a b c d f n k 1) (sI s 2 0 0) (vlR e) := fun k hk hz => by
    simp only [M_Mo_feed_j22, ok_B, ok_C, ok_R, ok_L, ok_K, ok_GI, ok_GL, ok_PI, ok_PL, ok_AI, ok_AL, ok_SI, ok_SL, ok_CI, cmp_lt, cmp_le, cmp_gt, cmp_ge, cmp_eq, nar0, nar1, Sum.elim_inl, Sum.elim_inr, ok_PzT, ok_PzC, ok_PzP, ok_PrC, ok_PrP, ok_PrF, ok_PrN, ok_Ln, ok_CL, ok_Nw, ok_S, ok_Ks, ok_Nz, e5]
    refine ok_mono (rrefuse_ok (h.t2 0) 1 k hk) ?_
    rintro v t ⟨ev, vt, st⟩
    refine ⟨fun z => ?_, fun _ => vt.le (Nat.le_succ _) (by dsimp only; omega)⟩
    have k0 : k = 0 := ev.symm.trans z
    have sz := hz k0
    rw [← st k0] at sz
    have rm := vt.2.2.2.2.1
    refine ⟨⟨by have := rm.1; dsimp only at this; omega, by have := rm.2; dsimp only at this; omega⟩, ⟨by decide, by decide⟩, ⟨by decide, by decide⟩, ⟨by decide, by decide⟩, ⟨by decide, by decide⟩, ⟨by decide, by decide⟩, ?_⟩
    have key : ∀ u : S1, Rb t u → f_size u = f_size t → f_chunk u = f_chunk t → ok (oW M_Mo_feed_L60 (0, 0, (n.1 - 1, n.2 - 5))) u (fun r w => vlR e (gI w 1 0, r) w) := fun u rb es ec => by
      refine ok_mono (rfeedL (by rw [es]; exact vt.1.1) (by rw [es]; exact sz)) ?_
      rintro r w ⟨er, sw, rw_, cw⟩
      rw [er]
      have v1 : Vz w n (e.1 + 1, e.2 + 5) := (rb.trans rw_).vz vt (by rw [sw, es]; have := vt.1.1; exact ⟨by omega, by omega⟩) (fun y => by rw [cw, ec] at y; exact y)
      refine v1.room ?_ ?_
      · have := rm.1
        dsimp only at this ⊢
        omega
      · have := rm.2
        dsimp only at this ⊢
        omega
    refine key _ ⟨fun g i q => ?_, fun _ _ _ => rfl, fun g i j q => ?_, fun g i j q => ?_⟩ ?_ ?_
    · show gI (nwR t 94 0 5) g i = _
      rw [gI_nwR, if_neg (fun z => by omega), if_neg (fun z => by omega)]
    · simp only [gA_sA]
      rw [if_neg (fun z => q.2.1 z.1), if_neg (fun z => q.2.1 z.1), if_neg (fun z => q.2.1 z.1), if_neg (fun z => q.2.1 z.1), if_neg (fun z => q.2.1 z.1), gA_nwR, if_neg (fun z => q.2.1 z.1)]
    · show gB (nwR t 94 0 5) g i j = _
      rw [gB_nwR, if_neg (fun z => q.1 z.1)]
    · show gI (nwR t 94 0 5) 1 0 = _
      rw [gI_nwR, if_neg (fun z => by omega), if_neg (fun z => by omega)]
    · show gI (nwR t 94 0 5) 5 0 = _
      rw [gI_nwR, if_neg (fun z => by omega), if_neg (fun z => by omega)]
  have e6 : (65516 : Int32).toInt = 65516 := rfl
  simp only [M_Mo_feed, ok_B, ok_C, ok_R, ok_L, ok_K, ok_GI, ok_GL, ok_PI, ok_PL, ok_AI, ok_AL, ok_SI, ok_SL, ok_CI, cmp_lt, cmp_le, cmp_gt, cmp_ge, cmp_eq, nar0, nar1, Sum.elim_inl, Sum.elim_inr, ok_PzT, ok_PzC, ok_PzP, ok_PrC, ok_PrP, ok_PrF, ok_PrN, ok_Ln, ok_CL, ok_Nw, ok_S, ok_Ks, ok_Nz]
  refine ⟨fun c => j22 0 (.inl rfl) (fun _ => ?_), fun _ => j22 1 (.inr rfl) (fun z => absurd z (by decide))⟩
  rw [i32_le] at c
  exact c
