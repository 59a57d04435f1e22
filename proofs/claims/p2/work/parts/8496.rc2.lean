/-! The reference: clear, the whole. -/
def rclQ (n : Nat × Nat) (s : S1) (r : Unit × (Nat × Nat)) (T : S1) : Prop := r.2 = n ∧ clP s T
theorem clear61_ok (n : Nat × Nat) (s : S1) (hR : Rm s) (hl : Lf s) : ok (M_Mo_clear_j61 n) s (rclQ n s) := by
  simp only [M_Mo_clear_j61, ok_B, ok_C, ok_R, ok_L, ok_K, ok_GI, ok_GL, ok_PI, ok_PL, ok_AI, ok_AL, ok_SI, ok_SL, ok_Pr, ok_CI, cmp_lt, cmp_le, cmp_gt, cmp_ge, cmp_eq, nar0, nar1, Sum.elim_inl, Sum.elim_inr]
  refine ok_mono (rfillI_ok _ 68 0 0 ⟨by decide, by decide⟩) ?_
  rintro - s3 ⟨i3, l3, b3, a3⟩
  refine ok_mono (fillY_ok _ 58 0 0 ⟨by decide, by decide⟩) ?_
  rintro - s4 ⟨i4, l4, b4, a4⟩
  refine ok_mono (clearT_ok n s4) ?_
  rintro m s5 ⟨em, i5, e5⟩
  have l5 : ∀ f i, gL s5 f i = gL s4 f i := fun f i => by unfold gL; rw [e5]
  have a5 : ∀ a i j, gA s5 a i j = gA s4 a i j := fun f i j => by unfold gA; rw [e5]
  have b5 : ∀ a i j, gB s5 a i j = gB s4 a i j := fun f i j => by unfold gB; rw [e5]
  refine ⟨by decide, ?_⟩
  simp only [gI_sI, gI_sL, gI_sA, gI_sB, gI_sAf, gI_sBf, gL_sI, gL_sL, gL_sA, gL_sB, gL_sAf, gL_sBf, gA_sI, gA_sL, gA_sA, gA_sB, gA_sAf, gA_sBf, gB_sI, gB_sL, gB_sA, gB_sB, gB_sAf, gB_sBf, Nat.reduceEqDiff, Nat.reduceMul, Nat.reduceAdd, false_and, true_and, and_true, and_false, if_true, if_false]
  refine ⟨by decide, em, clear_key hR hl (fun f i => ?_) (fun f i => ?_) (fun a i j => ?_) (fun a i j => ?_)⟩
  · simp only [gI_sI, gI_sL, i5, i4, i3]
  · simp only [gL_sI, gL_sL, l5, l4, l3]
  · simp only [gA_sI, gA_sL, a5, a4, a3]
  · simp only [gB_sI, gB_sL, b5, b4, b3]
/-- the room that the rows will take -/
def Rmo (s : S1) (n e : Nat × Nat) : Prop := (if gI s 8959 0 = 1 then 0 else 6) + e.1 ≤ n.1 ∧ (if gI s 8959 0 = 1 then 0 else 1800000) + e.2 ≤ n.2
def crQ (s : S1) (e : Nat × Nat) (r : Unit × (Nat × Nat)) (T : S1) : Prop := clP s T ∧ Rmo T r.2 e
theorem clear_ok {s : S1} {n e : Nat × Nat} (hr : gI s 8959 0 = 1 → Rm s) (hl : Lf s) (room : Rmo s n e) : ok (M_Mo_clear n) s (crQ s e) := by
  have ek : (300000 : Int32).toNatClampNeg = 300000 := by decide
  obtain ⟨m1, m2⟩ := room
  simp only [M_Mo_clear, ok_B, ok_C, ok_R, ok_L, ok_K, ok_GI, ok_GL, ok_PI, ok_PL, ok_AI, ok_AL, ok_SI, ok_SL, ok_CI, cmp_lt, cmp_le, cmp_gt, cmp_ge, cmp_eq, nar0, nar1, Sum.elim_inl, Sum.elim_inr, ok_PzT, ok_PzC, ok_PzP, ok_PrC, ok_PrP, ok_PrF, ok_PrN, ok_Ln, ok_CL, ok_Nw, ok_S, ok_Ks, ok_Nz, ek]
  refine ⟨fun c => ?_, fun c => ?_⟩
  · rw [if_pos c] at m1 m2
    refine ok_mono (clear61_ok n s (hr c) hl) ?_
    rintro ⟨u, m⟩ T ⟨em, q⟩
    dsimp only at em
    refine ⟨q, ?_, ?_⟩
    · rw [if_pos q.2.2.2.2, em]
      exact m1
    · rw [if_pos q.2.2.2.2, em]
      exact m2
  · rw [if_neg c] at m1 m2
    refine ⟨⟨by omega, by omega⟩, ⟨by omega, by omega⟩, ⟨by omega, by omega⟩, ⟨by omega, by omega⟩, ⟨by omega, by omega⟩, ⟨by omega, by omega⟩, ?_⟩
    have key : ∀ s1 : S1, (∀ f i, ¬ (8832 ≤ f ∧ f ≤ 9599) → gI s1 f i = gI s f i) → Rm s1 → s1.2.1 = s.2.1 → (∀ a i j, ¬ (69 ≤ a ∧ a ≤ 74) → gA s1 a i j = gA s a i j) → (∀ a i j, ¬ (69 ≤ a ∧ a ≤ 74) → gB s1 a i j = gB s a i j) → ∀ k : Nat × Nat, k.1 + 6 = n.1 → k.2 + 1800000 = n.2 → ok (M_Mo_clear_j61 k) s1 (crQ s e) := fun s1 I R L A B k k1 k2 => by
      have hl1 : Lf s1 := by
        unfold Lf at hl ⊢
        simp only [f_roomAll, f_textAll, f_madeAll, f_limit] at hl ⊢
        rw [I 43 0 (by decide), I 44 0 (by decide), I 42 0 (by decide), I 32 0 (by decide)]
        exact hl
      refine ok_mono (clear61_ok k s1 R hl1) ?_
      rintro ⟨u, m⟩ T ⟨em, q1, ⟨c1, c2, c3, c4, c5⟩, q3⟩
      dsimp only at em
      refine ⟨⟨q1, ⟨fun f i a b => ?_, fun i => ?_, fun f i a => ?_, fun a i j q => ?_, fun a i j q => ?_⟩, q3⟩, ?_, ?_⟩
      · rw [c1 f i a b]
        exact I f i (fun z => a (by unfold clF; omega))
      · rw [c2 i, I 3590 i (by decide)]
      · rw [c3 f i a]
        show s1.2.1 f i = s.2.1 f i
        rw [L]
      · rw [c4 a i j q]
        exact A a i j (by omega)
      · rw [c5 a i j q]
        exact B a i j q
      · rw [if_pos q3.2.2, em]
        dsimp only
        omega
      · rw [if_pos q3.2.2, em]
        dsimp only
        omega
    refine key _ (fun f i q => ?_) ⟨?_, ?_, ?_, ?_, ?_, ?_⟩ ?_ (fun a i j q => ?_) (fun a i j q => ?_) _ ?_ ?_
    · simp only [gI_nwR]
      rw [if_neg (fun z => by omega), if_neg (fun z => by omega), if_neg (fun z => by omega), if_neg (fun z => by omega), if_neg (fun z => by omega), if_neg (fun z => by omega), if_neg (fun z => by omega), if_neg (fun z => by omega), if_neg (fun z => by omega), if_neg (fun z => by omega), if_neg (fun z => by omega), if_neg (fun z => by omega)]
    · show gI _ 8959 0 = 1
      simp [gI_nwR]
    · show gI _ _ 0 = 1
      simp [gI_nwR]
    · show gI _ _ 0 = 1
      simp [gI_nwR]
    · show gI _ _ 0 = 1
      simp [gI_nwR]
    · show gI _ _ 0 = 1
      simp [gI_nwR]
    · show gI _ _ 0 = 1
      simp [gI_nwR]
    · rfl
    · simp only [gA_nwR]
      rw [if_neg (fun z => by omega), if_neg (fun z => by omega), if_neg (fun z => by omega), if_neg (fun z => by omega), if_neg (fun z => by omega), if_neg (fun z => by omega)]
    · simp only [gB_nwR]
      rw [if_neg (fun z => by omega), if_neg (fun z => by omega), if_neg (fun z => by omega), if_neg (fun z => by omega), if_neg (fun z => by omega), if_neg (fun z => by omega)]
    · dsimp only
      omega
    · dsimp only
      omega
