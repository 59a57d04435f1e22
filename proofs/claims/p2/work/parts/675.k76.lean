/-! The class: built ins that write text. -/
theorem wk0 {s : S1} {n : Nat × Nat} (W : cW s n) : wuQ s (sI s 14217 0 0) ∧ wkI (sI s 14217 0 0) ∧ cRo (sI s 14217 0 0) n (0, 0) ∧ (gI (sI s 14217 0 0) 14217 0).toInt = 0 := by
  have g0 : ∀ f j, f ≠ 14217 → gI (sI s 14217 0 0) f j = gI s f j := fun f j q => by rw [gI_sI, if_neg (fun z => q z.1)]
  have u0 : gI (sI s 14217 0 0) 14217 0 = 0 := by rw [gI_sI, if_pos ⟨rfl, rfl⟩]
  have w0 : wuQ s (sI s 14217 0 0) := ⟨fun f j q => g0 f j (fun z => q (by unfold wuX; omega)), fun _ _ => rfl, fun _ _ _ _ => rfl, fun _ _ _ _ => rfl⟩
  have r0 := W.ro.wu w0 (g0 _ _ (by decide)) (.inr trivial)
  refine ⟨w0, ?_, r0, by rw [u0]; rfl⟩
  unfold wkI
  rw [u0]
  have := r0.wl
  exact ⟨by decide, fun _ => by show (0 : Int) ≤ _; omega⟩
/-- the working row has been written, from the start -/
def wtQ (s : S1) (m : Nat × Nat) (t : S1) : Prop := wuQ s t ∧ wkI t ∧ cRo t m (0, 0) ∧ (gI t 14217 0).toInt ≤ 1000
theorem wuQ.row {s t : S1} (h : wuQ s t) {r : Nat} (hr : r = 132 ∨ r = 135 ∨ r = 138 ∨ r = 141) (c : cRow (cLv false s) s r) : cRow (cLv false t) t r := by
  rw [h.lv]
  exact c.up (fun _ _ q => q) (h.1 _ _ (by unfold wuX; omega)) (fun j => h.2.2.1 _ _ _ (by omega)) (fun j => h.2.2.2 _ _ _ (by omega))
theorem wtQ.st3 {s t : S1} {n m : Nat × Nat} (h : wtQ s m t) (q : St3 s n) : St3 t m := (h.1.mk q.1 q.2.1 h.2.2.1).st3 q (h.1.row (.inr (.inl rfl)) q.2.2.2.2)
theorem wtQ.pf {s t : S1} {n m : Nat × Nat} (h : wtQ s m t) (q : Pf s n) (z0 : rwS s 135 = 0) : Pf t m ∧ rwS t 135 = 0 := (h.1.mk q.1.1 q.1.2.1 h.2.2.1).pf q z0
theorem mob_ok {s : S1} {n : Nat × Nat} (h : Pf s n) : ok (oW M_Bu_makeOfBytes_L10 (0, n)) (sI s 14217 0 0) (fun e t => Sum.elim (fun m => wtQ s m t) (Sum.elim (fun m => wtQ s m t) (fun m => wtQ s m t)) e) := by
  have e1 : (1 : Int32).toInt = 1 := rfl
  have e0 : (0 : Int32).toInt = 0 := rfl
  have e5 : (512 : Int32).toInt = 512 := rfl
  have an := h.2
  obtain ⟨w0, i0, r0, z0⟩ := wk0 h.w
  refine ok_W (fun y t => (wuQ s t ∧ wkI t ∧ cRo t y.2 (0, 0) ∧ (gI t 14217 0).toInt ≤ y.1.toInt) ∧ 0 ≤ y.1.toInt ∧ y.1.toInt ≤ 512) (fun y _ => (512 - y.1.toInt).toNat) ?_ (0, n) _ ⟨⟨w0, i0, r0, by rw [z0]; exact Int.le_refl _⟩, (by show 0 ≤ (0 : Int32).toInt; decide), (by show (0 : Int32).toInt ≤ 512; decide)⟩
  rintro ⟨i, m⟩ t ⟨⟨w, k, r, b⟩, j0, j1⟩
  dsimp only at w k r b j0 j1
  simp only [M_Bu_makeOfBytes_L10, ok_B, ok_C, ok_R, ok_L, ok_K, ok_GI, ok_GL, ok_PI, ok_PL, ok_AI, ok_AL, ok_SI, ok_SL, ok_CI, cmp_lt, cmp_le, cmp_gt, cmp_ge, cmp_eq, nar0, nar1, Sum.elim_inl, Sum.elim_inr, ok_PzT, ok_PzC, ok_PzP, ok_PrC, ok_PrP, ok_PrF, ok_PrN, ok_Ln, ok_CL, ok_Nw, ok_S, ok_Ks, ok_Nz]
  rw [w.1 16898 0 (by unfold wuX; decide), w.2.2.1 133 0 i (by decide), w.2.2.2 134 0 i (by decide)]
  have q : wtQ s m t := ⟨w, k, r, by omega⟩
  refine ⟨fun _ => q, fun c => ?_⟩
  rw [i32_le] at c
  change ¬ (rwS s 132).toInt ≤ i.toInt at c
  have rg : 0 ≤ i ∧ i < 512 := ⟨by rw [i32_le]; omega, by rw [i32_lt]; omega⟩
  refine ⟨rg, fun _ => ⟨rg, fun _ => q, fun _ => ⟨rg, fun _ => ⟨rg, ?_⟩, fun _ => q⟩⟩, fun _ => q⟩
  refine ok_mono (putByte_ok r k (by omega) _) ?_
  rintro x u ⟨w2, k2, r2, b2⟩
  have ei : (i + 1).toInt = i.toInt + 1 := by rw [ktI_add] <;> omega
  exact ⟨⟨⟨w.trans w2, k2, r2, (by first | omega | (dsimp only; omega))⟩, (by first | omega | (dsimp only; omega)), (by first | omega | (dsimp only; omega))⟩, (by first | omega | (dsimp only; omega))⟩
theorem makeOfBytes_ok {s : S1} {n : Nat × Nat} (h : Pf s n) (z0 : rwS s 135 = 0) : ok (M_Bu_makeOfBytes n) s (fun r t => Pq t r.2) := by
  simp only [M_Bu_makeOfBytes, M_Bu_makeOfBytes_j73, ok_B, ok_C, ok_R, ok_L, ok_K, ok_GI, ok_GL, ok_PI, ok_PL, ok_AI, ok_AL, ok_SI, ok_SL, ok_CI, cmp_lt, cmp_le, cmp_gt, cmp_ge, cmp_eq, nar0, nar1, Sum.elim_inl, Sum.elim_inr, ok_PzT, ok_PzC, ok_PzP, ok_PrC, ok_PrP, ok_PrF, ok_PrN, ok_Ln, ok_CL, ok_Nw, ok_S, ok_Ks, ok_Nz]
  refine ok_mono (mob_ok h) ?_
  rintro (m | m | m) t q
  · simp only [Sum.elim_inl, Sum.elim_inr, ok_B, ok_C, ok_R, ok_L, ok_K, ok_GI, ok_GL, ok_PI, ok_PL, ok_AI, ok_AL, ok_SI, ok_SL, ok_CI, cmp_lt, cmp_le, cmp_gt, cmp_ge, cmp_eq, nar0, nar1, Sum.elim_inl, Sum.elim_inr, ok_PzT, ok_PzC, ok_PzP, ok_PrC, ok_PrP, ok_PrF, ok_PrN, ok_Ln, ok_CL, ok_Nw, ok_S, ok_Ks, ok_Nz] at q ⊢
    exact (q.st3 h.1).fail 3
  · simp only [Sum.elim_inl, Sum.elim_inr, ok_B, ok_C, ok_R, ok_L, ok_K, ok_GI, ok_GL, ok_PI, ok_PL, ok_AI, ok_AL, ok_SI, ok_SL, ok_CI, cmp_lt, cmp_le, cmp_gt, cmp_ge, cmp_eq, nar0, nar1, Sum.elim_inl, Sum.elim_inr, ok_PzT, ok_PzC, ok_PzP, ok_PrC, ok_PrP, ok_PrF, ok_PrN, ok_Ln, ok_CL, ok_Nw, ok_S, ok_Ks, ok_Nz] at q ⊢
    exact (q.st3 h.1).fail 7
  · simp only [Sum.elim_inl, Sum.elim_inr, ok_B, ok_C, ok_R, ok_L, ok_K, ok_GI, ok_GL, ok_PI, ok_PL, ok_AI, ok_AL, ok_SI, ok_SL, ok_CI, cmp_lt, cmp_le, cmp_gt, cmp_ge, cmp_eq, nar0, nar1, Sum.elim_inl, Sum.elim_inr, ok_PzT, ok_PzC, ok_PzP, ok_PrC, ok_PrP, ok_PrF, ok_PrN, ok_Ln, ok_CL, ok_Nw, ok_S, ok_Ks, ok_Nz] at q ⊢
    obtain ⟨pf, z⟩ := q.pf h z0
    refine ok_mono (intern_ok pf.w.hr q.2.2.1 118 0 0 _ (.inr (.inl rfl)) (fun y => wk_src q.2.2.1 q.2.1 y)) ?_
    rintro r u y
    exact madeS_ok pf z y
def ptI (s : S1) (e : Nat × Nat) (k : Nat) (y : Nat × Int32 × (Nat × Nat)) (t : S1) : Prop := y.1 = k ∧ (wuQ s t ∧ wkI t ∧ cRo t y.2.2 e ∧ (gI t 14217 0).toInt ≤ (gI s 14217 0).toInt + y.2.1.toInt) ∧ 0 ≤ y.2.1.toInt ∧ y.2.1.toInt ≤ (stLI k).toInt
theorem putT_ok {s : S1} {n e : Nat × Nat} {k : Nat} (R : cRo s n e) (h : wkI s) (hu : (gI s 14217 0).toInt ≤ 1000) (hk : 0 ≤ (stLI k).toInt ∧ (stLI k).toInt ≤ 50) : ok (M_He_putText n k) s (pbQ s e 50) := by
  have e1 : (1 : Int32).toInt = 1 := rfl
  have e0 : (0 : Int32).toInt = 0 := rfl
  simp only [M_He_putText, ok_B, ok_C, ok_R, ok_L, ok_K, ok_GI, ok_GL, ok_PI, ok_PL, ok_AI, ok_AL, ok_SI, ok_SL, ok_CI, cmp_lt, cmp_le, cmp_gt, cmp_ge, cmp_eq, nar0, nar1, Sum.elim_inl, Sum.elim_inr, ok_PzT, ok_PzC, ok_PzP, ok_PrC, ok_PrP, ok_PrF, ok_PrN, ok_Ln, ok_CL, ok_Nw, ok_S, ok_Ks, ok_Nz]
  refine ok_mono (P := fun m t => wuQ s t ∧ wkI t ∧ cRo t m e ∧ (gI t 14217 0).toInt ≤ (gI s 14217 0).toInt + 50) ?_ (fun m t q => q)
  refine ok_W (ptI s e k) (fun y _ => (50 - y.2.1.toInt).toNat) ?_ (k, 0, n) s ⟨rfl, ⟨wuQ.refl s, h, R, (by first | omega | (dsimp only; omega))⟩, Int.le_refl _, (by first | omega | (dsimp only; omega))⟩
  rintro ⟨k', i, m⟩ t ⟨ek, ⟨w, q, r, b⟩, j0, j1⟩
  dsimp only at ek w q r b j0 j1
  rw [ek]
  simp only [M_He_putText_L2, ok_B, ok_C, ok_R, ok_L, ok_K, ok_GI, ok_GL, ok_PI, ok_PL, ok_AI, ok_AL, ok_SI, ok_SL, ok_CI, cmp_lt, cmp_le, cmp_gt, cmp_ge, cmp_eq, nar0, nar1, Sum.elim_inl, Sum.elim_inr, ok_PzT, ok_PzC, ok_PzP, ok_PrC, ok_PrP, ok_PrF, ok_PrN, ok_Ln, ok_CL, ok_Nw, ok_S, ok_Ks, ok_Nz]
  refine ⟨fun _ => ⟨w, q, r, by omega⟩, fun c => ⟨⟨by rw [i32_le]; omega, by rw [i32_lt]; rw [i32_le] at c; omega⟩, ?_⟩⟩
  rw [i32_le] at c
  refine ok_mono (putByte_ok r q (by omega) _) ?_
  rintro x u ⟨w2, k2, r2, b2⟩
  have ei : (i + 1).toInt = i.toInt + 1 := by rw [ktI_add] <;> omega
  exact ⟨⟨rfl, ⟨w.trans w2, k2, r2, (by first | omega | (dsimp only; omega))⟩, (by first | omega | (dsimp only; omega)), (by first | omega | (dsimp only; omega))⟩, (by first | omega | (dsimp only; omega))⟩
theorem num_pT {s : S1} {n : Nat × Nat} {k : Int32} {v : Int64} (W : cW s n) (hv : cV (cLv false s) k v) (hk : ¬ (0 ≤ k ∧ k ≤ 3)) (v0 : 0 ≤ v) : pT s v.toInt32 := by
  have p : ∀ x u, cLv false s x u → pT s x := fun x u l => W.hi.1.2 _ l.1.1 l.1.2
  rcases hv with z | z | z
  · exact absurd z hk
  · exact p _ _ z.2.2
  · rcases z.2 with y | y
    · rw [i64_lt] at y
      rw [i64_le] at v0
      omega
    · rcases y.2 with y | y
      · exact p _ _ y
      · exact p _ _ y
theorem describe_ok {s : S1} {n : Nat × Nat} {k : Int32} {v : Int64} (W : cW s n) (hv : cV (cLv false s) k v) : ok (M_Bu_describe n k v) s (fun r t => wtQ s r.2 t) := by
  obtain ⟨w0, i0, r0, z0⟩ := wk0 W
  have kr := hv.kr
  simp only [M_Bu_describe, ok_B, ok_C, ok_R, ok_L, ok_K, ok_GI, ok_GL, ok_PI, ok_PL, ok_AI, ok_AL, ok_SI, ok_SL, ok_CI, cmp_lt, cmp_le, cmp_gt, cmp_ge, cmp_eq, nar0, nar1, Sum.elim_inl, Sum.elim_inr, ok_PzT, ok_PzC, ok_PzP, ok_PrC, ok_PrP, ok_PrF, ok_PrN, ok_Ln, ok_CL, ok_Nw, ok_S, ok_Ks, ok_Nz]
  generalize sI s 14217 0 0 = s0 at w0 i0 r0 z0 ⊢
  have plain : ∀ j, 0 ≤ (stLI j).toInt ∧ (stLI j).toInt ≤ 50 → ok (M_He_putText n j) s0 (fun r t => wtQ s r.2 t) := fun j hj => by
    refine ok_mono (putT_ok r0 i0 (by omega) hj) ?_
    rintro x t ⟨w, q, r, b⟩
    exact ⟨w0.trans w, q, r, by omega⟩
  have j135 : ∀ t m, ¬ (0 ≤ k ∧ k ≤ 3) → wuQ s t → wkI t → cRo t m (0, 0) → (gI t 14217 0).toInt ≤ 50 → ok (M_Bu_describe_j135 v m) t (fun r t => wtQ s r.2 t) := fun t m hk w q r b => by
    have dec : ∀ x, ok (M_He_putDecimal m x) t (fun r t => wtQ s r.2 t) := fun x => by
      refine ok_mono (putDecimal_ok r q (by omega) x) ?_
      rintro y u ⟨w2, q2, r2, b2⟩
      exact ⟨w.trans w2, q2, r2, by omega⟩
    simp only [M_Bu_describe_j135, M_He_numberOf, ok_B, ok_C, ok_R, ok_L, ok_K, ok_GI, ok_GL, ok_PI, ok_PL, ok_AI, ok_AL, ok_SI, ok_SL, ok_CI, cmp_lt, cmp_le, cmp_gt, cmp_ge, cmp_eq, nar0, nar1, Sum.elim_inl, Sum.elim_inr, ok_PzT, ok_PzC, ok_PzP, ok_PrC, ok_PrP, ok_PrF, ok_PrN, ok_Ln, ok_CL, ok_Nw, ok_S, ok_Ks, ok_Nz]
    refine ⟨fun c => ⟨?_, dec _⟩, fun _ => dec _⟩
    have p := num_pT W hv hk c
    exact ⟨p.1, (w.1 _ _ (by unfold wuX; decide)).trans p.2⟩
  have named : ∀ j, ¬ (0 ≤ k ∧ k ≤ 3) → 0 ≤ (stLI j).toInt ∧ (stLI j).toInt ≤ 50 → ok (M_He_putText n j) s0 (fun r t => ok (M_Bu_describe_j135 v r.2) t (fun r t => wtQ s r.2 t)) := fun j hk hj => by
    refine ok_mono (putT_ok r0 i0 (by omega) hj) ?_
    rintro x t ⟨w, q, r, b⟩
    exact j135 t x.2 hk (w0.trans w) q r (by omega)
  refine ⟨fun _ => plain 63 (by decide), fun n0 => ⟨fun _ => plain 64 (by decide), fun n1 => ⟨fun _ => plain 65 (by decide), fun n2 => ⟨fun _ => ?_, fun n3 => ?_⟩⟩⟩⟩
  · refine ok_mono (putDecimal_ok r0 i0 (by omega) v) ?_
    rintro x t ⟨w, q, r, b⟩
    exact ⟨w0.trans w, q, r, by omega⟩
  · have hk : ¬ (0 ≤ k ∧ k ≤ 3) := fun z => by
      have a0 := z.1
      have a1 := z.2
      rw [i32_le] at a0 a1
      have m0 : k.toInt ≠ 0 := fun y => n0 (toInt_inj y)
      have m1 : k.toInt ≠ 1 := fun y => n1 (toInt_inj y)
      have m2 : k.toInt ≠ 2 := fun y => n2 (toInt_inj y)
      have m3 : k.toInt ≠ 3 := fun y => n3 (toInt_inj y)
      have e0 : (0 : Int32).toInt = 0 := rfl
      have e3 : (3 : Int32).toInt = 3 := rfl
      omega
    simp only [M_Bu_describe_j120, ok_B, ok_C, ok_R, ok_L, ok_K, ok_GI, ok_GL, ok_PI, ok_PL, ok_AI, ok_AL, ok_SI, ok_SL, ok_CI, cmp_lt, cmp_le, cmp_gt, cmp_ge, cmp_eq, nar0, nar1, Sum.elim_inl, Sum.elim_inr, ok_PzT, ok_PzC, ok_PzP, ok_PrC, ok_PrP, ok_PrF, ok_PrN, ok_Ln, ok_CL, ok_Nw, ok_S, ok_Ks, ok_Nz]
    exact ⟨fun _ => named 66 hk (by decide), fun _ => ⟨fun _ => ⟨fun _ => named 68 hk (by decide), fun _ => named 67 hk (by decide)⟩, fun _ => named 69 hk (by decide)⟩⟩
theorem makeText_ok {s : S1} {n : Nat × Nat} (h : Pf s n) (z0 : rwS s 135 = 0) : ok (M_Bu_makeText n) s (fun r t => Po t r.2) := by
  have a5 := h.a5
  have W := h.w
  have H := W.hi
  have F := h.1.2.1
  have st := h.1.2.2.1
  have kv := h.kv (i := 0) (by decide)
  simp only [M_Bu_makeText, ok_B, ok_C, ok_R, ok_L, ok_K, ok_GI, ok_GL, ok_PI, ok_PL, ok_AI, ok_AL, ok_SI, ok_SL, ok_CI, cmp_lt, cmp_le, cmp_gt, cmp_ge, cmp_eq, nar0, nar1, Sum.elim_inl, Sum.elim_inr, ok_PzT, ok_PzC, ok_PzP, ok_PrC, ok_PrP, ok_PrF, ok_PrN, ok_Ln, ok_CL, ok_Nw, ok_S, ok_Ks, ok_Nz]
  rw [ok_kA a5 (by decide), ok_vA a5 (by decide)]
  generalize rk s 132 0 = k at kv ⊢
  generalize rv s 132 0 = v at kv ⊢
  refine ok_mono (findEvent_ok H k v 20 (fun z => by rw [z] at kv; exact kv.at5) (by decide)) ?_
  rintro p t ⟨et, hp⟩
  rw [et]
  refine ⟨fun _ => ⟨fun k4 => ?_, fun _ => ?_⟩, fun c => ?_⟩
  · rw [k4] at kv
    exact Pq.o (g := fun _ => n) (h.1.addP kv)
  · refine ok_mono (describe_ok W kv) ?_
    rintro r u q
    obtain ⟨pf, z⟩ := q.pf h z0
    refine ok_mono (intern_ok pf.w.hr q.2.2.1 118 0 0 _ (.inr (.inl rfl)) (fun y => wk_src q.2.2.1 q.2.1 y)) ?_
    rintro x y w
    exact Pq.o (g := fun _ => x.2) (madeS_ok pf z w)
  · have it : inT s p := by
      rcases hp with z | z
      · rw [z] at c
        exact absurd (show (-1 : Int32) < 0 by decide) c
      · exact z.2.1
    refine ⟨W.cur.1, ?_⟩
    refine pushK_ok W F st (by decide) (by decide) (.inl (by decide)) ⟨fun _ => Pq.o (g := fun _ => n) (h.1.fail 4), fun z => absurd rfl z⟩ (fun t Wt Ft pd ps cur lv d1 top st' => ⟨fun z => absurd z (by decide), fun _ => ?_⟩)
    have it' : inT t p := by
      obtain ⟨y, i, hy, i0, i1, e⟩ := it
      have gi : ∀ f j, f / 128 = 145 → gI t f j = gI s f j := fun f j q => pd.1 f j (by unfold miI; omega)
      exact ⟨y, i, by rw [lv]; exact hy, i0, by rw [show cE t y = cE s y from gi _ _ (by decide)]; exact i1, by rw [show cS0 t y = cS0 s y from gi _ _ (by decide)]; exact e⟩
    refine ok_mono (callEntry_ok Wt.hi it' (by rw [lv]; exact kv) (cV.lit (by decide))) ?_
    rintro - u ⟨ce, r2⟩
    have ce' : ceQ t (sI u 16898 0 1) := by
      obtain ⟨c1, c2, c3, c4, c5, c6, c7, c8⟩ := ce
      refine ⟨fun f j q => ?_, c2, c3, c4, ?_, ?_, ?_, ?_⟩
      · rw [gI_sI, if_neg (fun z => q.2.2 z.1)]
        exact c1 f j q
      · rw [gI_sI, if_neg (fun z => absurd z.1 (by decide))]
        exact c5
      · rw [gI_sI, if_neg (fun z => absurd z.1 (by decide))]
        exact c6
      · refine ⟨?_, fun j j0 j1 => ?_⟩
        · show 0 ≤ gI (sI u 16898 0 1) 16898 0 ∧ gI (sI u 16898 0 1) 16898 0 ≤ 512
          rw [gI_sI, if_pos ⟨rfl, rfl⟩]
          decide
        · change j < gI (sI u 16898 0 1) 16898 0 at j1
          rw [gI_sI, if_pos ⟨rfl, rfl⟩] at j1
          refine c7.2 j j0 ?_
          show j < rwS u 132
          rw [i32_lt] at j1 ⊢
          have e1 : (1 : Int32).toInt = 1 := rfl
          omega
      · show (gI (sI u 16898 0 1) 16898 0).toInt ≤ 3
        rw [gI_sI, if_pos ⟨rfl, rfl⟩]
        decide
    generalize sI u 16898 0 1 = u' at ce'
    have l := ce'.lw
    obtain ⟨q1, q2, q3, q4⟩ := ce'.kept Wt
    refine .inl ⟨l.w Wt Ft.weak q1 q2 q3 q4, l.fr Wt Ft (fun _ => rfl), ?_, ce'.2.2.2.2.1, by rw [l.lv']; exact ce'.2.2.2.2.2.1⟩
    rw [l.cur, ce'.1 18951 _ (by decide)]
    exact st'
