/-! Both readings: code with its head, the children's number, a whole prototype. -/
def Cc1 (p : Int32) (n0 : Int) (s s' : S1) : Prop := (∀ f j, ¬ chX f → f ≠ 12939 → ¬ ((f = 18439 ∨ f = 18440 ∨ f = 18441) ∧ j = p) → gI s' f j = gI s f j) ∧ (∀ a i j, a ≠ 104 → gA s' a i j = gA s a i j) ∧ ∀ j : Int32, j.toInt < n0 → gA s' 104 0 j = gA s 104 0 j
def Ct1 (p : Int32) (n0 : Int) (t t' : S1) : Prop := (∀ f i, f ≠ 3 → f ≠ 4 → f ≠ 28 → f ≠ 29 → f ≠ 26 → gI t' f i = gI t f i) ∧ (∀ a i j, a ≠ 55 → a ≠ 56 → ¬ ((a = 49 ∨ a = 50) ∧ j = p) → gA t' a i j = gA t a i j) ∧ ∀ j : Int32, j.toInt < n0 → gA t' 55 0 j = gA t 55 0 j ∧ gA t' 56 0 j = gA t 56 0 j
/-- the code of prototype p in both -/
def Pk (p : Int32) (s t : S1) : Prop := gI s 18440 p = gA t 49 0 p ∧ gI s 18439 p = gA t 50 0 p ∧ 0 ≤ (gI s 18440 p).toInt ∧ 0 ≤ (gI s 18439 p).toInt ∧ (gI s 18440 p).toInt + (gI s 18439 p).toInt ≤ rK s ∧ ∀ j : Int32, (gI s 18440 p).toInt ≤ j.toInt → j.toInt < (gI s 18440 p).toInt + (gI s 18439 p).toInt → (gA t 56 0 j).toInt = (gI s 18441 p).toInt + 4 * (j.toInt - (gI s 18440 p).toInt)
def Wk (s t : S1) : Prop := ∀ j : Int32, 0 ≤ j.toInt → j.toInt < rK s → gA s 104 0 j = gA t 55 0 j
def cdG (rec : Int32 → Int32 → M (Unit)) (s t : S1) (l2 p : Int32) (Q : S1 → Prop) (v : Int32) (s' : S1) : Prop := (v = 0 → ∀ t', Ff s' t' → Q t') ∧ (v ≠ 0 → ∀ t', Rn5 s' t' → Rc s' t' → Pk p s' t' → gI s' 18440 p = gI s 12939 0 → Wk s' t' → Cc1 p (rK s) s s' → Ct1 p (rK s) t t' → hu (M_Mo_proto_j410 rec l2 p) t' (fun _ t2 => Q t2))
theorem cd2 {rec : Int32 → Int32 → M (Unit)} (hr : ∀ a b, Skk (rec a b)) {s t : S1} {l2 p : Int32} {Q : S1 → Prop} (rn : Rn5 s t) (rc : Rc s t) (wk : Wk s t) :
    hu (M_Ch_readCode p) s (fun v s' => hu (rQ rec l2 p) t (fun _ t2 => cdG rec s t l2 p Q v s' → Q t2)) := by
  have e0 : (0 : Int32).toInt = 0 := rfl
  have g0 : ∀ s' (a : Unit) t2, Ff s' t2 → cdG rec s t l2 p Q 0 s' → Q t2 := fun s' _ t2 f g => g.1 rfl t2 f
  have I : ∀ f j, ¬ (f = 18440 ∧ j = p) → gI (sI s 18440 p (gI s 12939 0)) f j = gI s f j := fun f j z => by rw [gI_sI, if_neg z]
  have i40 : gI (sI s 18440 p (gI s 12939 0)) 18440 p = gI s 12939 0 := by rw [gI_sI, if_pos ⟨rfl, rfl⟩]
  have skE : ∀ b : (Int32 × Int32) ⊕ (Int32 × Int32), Skk (Sum.elim (fun y307_372 : Int32 × Int32 => M_Mo_proto_j410 rec y307_372.1 y307_372.2) (fun y307_410 : Int32 × Int32 => M_Mo_proto_j410 rec y307_410.1 y307_410.2) b) := fun b => skk_E (fun _ => skk_Mo_proto_j410 hr _ _) (fun _ => skk_Mo_proto_j410 hr _ _) b
  have skJ : ∀ a b : Int32, Skk (M_Mo_proto_j283 rec l2 p a b) := fun a b => skk_Mo_proto_j283 hr _ _ _ _
  unfold M_Ch_readCode rQ
  rw [hu_B, hu_GI, hu_B, hu_PI]
  refine numC (k := 2) (by decide) (rn.ws (by decide)) ?_ ?_
  · rintro v s2 w t2 ⟨rn2, nn2, nb2, ew, -, v2, eat, e29⟩
    obtain ⟨va, vb⟩ := v2 rfl
    have pl : gI (sI s2 18439 p v) 12942 0 - 2 = gI t2 29 0 := by
      rw [gI_sI, if_neg (fun z => absurd z.1 (by decide)), eat, e29, Int32.add_sub_cancel]
    have rc2 : Rc s2 t2 := (rc.of (s' := sI s 18440 p (gI s 12939 0)) (t' := t) (I _ _ (fun z => absurd z.1 (by decide))) (I _ _ (fun z => absurd z.1 (by decide))) rfl rfl).nu nn2 nb2
    rw [ew, hu_B, hu_PI, hu_B, hu_GI, gI_sI, if_pos ⟨rfl, rfl⟩, hu_C]
    refine ⟨fun _ => ?_, fun c => absurd (nn0 va) c⟩
    rw [hu_B, hu_GI, gI_sI, if_pos ⟨rfl, rfl⟩, hu_C]
    refine ⟨fun c => ?_, fun c => ?_⟩
    · refine r_ct (by rw [i32_le, e0, c]; exact Int.le_refl _) ?_
      unfold M_Mo_proto_j283
      exact leaf2 rn2.2.2.2.2.2 pl (skk_B (skk_GI _ _) fun _ => skk_B skk_SI fun _ => skk_B skk_SI fun _ => skk_B (skk_W (fun y => skk_Mo_proto_L307 hr y) _) fun b => skE b) g0
    · have vpos : ¬ v ≤ 0 := fun z => by
        rw [i32_le, e0] at z
        exact c (toInt_inj (by rw [e0]; omega))
      refine r_cf vpos ?_
      unfold M_Mo_proto_j283
      refine r_need1 (r_GI (r_SI fun _ => r_SI fun _ => ?_))
      rw [hu_B, hu_GI, hu_B, hu_PI]
      have kk : gI s2 12939 0 = gI s 12939 0 := (nn2.1 _ _ (by unfold chX; decide)).trans (I _ _ (fun z => absurd z.1 (by decide)))
      have k26 : gI t2 26 0 = gI s 12939 0 := by rw [← rc2.2.1, kk]
      rw [k26]
      -- the states at the loop
      have I3 : ∀ f j, ¬ (f = 18439 ∧ j = p) → ¬ (f = 18441 ∧ j = p) → gI (sI (sI s2 18439 p v) 18441 p (gI (sI s2 18439 p v) 12942 0)) f j = gI s2 f j := fun f j y z => by rw [gI_sI, if_neg z, gI_sI, if_neg y]
      have i39 : gI (sI (sI s2 18439 p v) 18441 p (gI (sI s2 18439 p v) 12942 0)) 18439 p = v := by rw [gI_sI, if_neg (fun z => absurd z.1 (by decide)), gI_sI, if_pos ⟨rfl, rfl⟩]
      have i41 : gI (sI (sI s2 18439 p v) 18441 p (gI (sI s2 18439 p v) 12942 0)) 18441 p = gI s2 12942 0 := by rw [gI_sI, if_pos ⟨rfl, rfl⟩, gI_sI, if_neg (fun z => absurd z.1 (by decide))]
      have A3 : ∀ a i j, gA (sI (sI s2 18439 p v) 18441 p (gI (sI s2 18439 p v) 12942 0)) a i j = gA s2 a i j := fun _ _ _ => rfl
      have T3 : ∀ a i j, ¬ (a = 49 ∧ i = 0 ∧ j = p) → ¬ (a = 50 ∧ i = 0 ∧ j = p) → gA (sA (sA t2 49 0 p (gI s 12939 0)) 50 0 p v) a i j = gA t2 a i j := fun a i j y z => by rw [gA_sA, if_neg z, gA_sA, if_neg y]
      have t49 : gA (sA (sA t2 49 0 p (gI s 12939 0)) 50 0 p v) 49 0 p = gI s 12939 0 := by rw [gA_sA, if_neg (fun z => absurd z.1 (by decide)), gA_sA, if_pos ⟨rfl, rfl, rfl⟩]
      have t50 : gA (sA (sA t2 49 0 p (gI s 12939 0)) 50 0 p v) 50 0 p = v := by rw [gA_sA, if_pos ⟨rfl, rfl, rfl⟩]
      have TI : ∀ f i, gI (sA (sA t2 49 0 p (gI s 12939 0)) 50 0 p v) f i = gI t2 f i := fun _ _ => rfl
      have rn3 : Rn5 (sI (sI s2 18439 p v) 18441 p (gI (sI s2 18439 p v) 12942 0)) (sA (sA t2 49 0 p (gI s 12939 0)) 50 0 p v) := ((((rn2.ws (by decide)).ws (by decide)).tA (by decide)).tA (by decide))
      have rc3 : Rc (sI (sI s2 18439 p v) 18441 p (gI (sI s2 18439 p v) 12942 0)) (sA (sA t2 49 0 p (gI s 12939 0)) 50 0 p v) := rc2.of (I3 _ _ (fun z => absurd z.1 (by decide)) (fun z => absurd z.1 (by decide))) (I3 _ _ (fun z => absurd z.1 (by decide)) (fun z => absurd z.1 (by decide))) rfl rfl
      generalize sI (sI s2 18439 p v) 18441 p (gI (sI s2 18439 p v) 12942 0) = s3 at *
      generalize sA (sA t2 49 0 p (gI s 12939 0)) 50 0 p v = t3 at *
      have k3 : gI s3 12939 0 = gI s 12939 0 := (I3 _ _ (fun z => absurd z.1 (by decide)) (fun z => absurd z.1 (by decide))).trans kk
      have rk3 : rK s3 = rK s := by
        show (gI s3 12939 0).toInt = _
        rw [k3]
      have ra3 : rAt s3 = (gI s3 18441 p).toInt := by
        show (gI s3 12942 0).toInt = _
        rw [i41, I3 _ _ (fun z => absurd z.1 (by decide)) (fun z => absurd z.1 (by decide))]
      refine r_sync (cdL5 hr rn3 rc3 i39 va ?_) ?_
      · intro j j0 j1
        rw [rk3] at j1
        rw [A3, nn2.A, T3 _ _ _ (fun z => absurd z.1 (by decide)) (fun z => absurd z.1 (by decide)), nb2.2.2.1]
        exact wk j j0 j1
      intro e s' b t' o
      rcases e with e | e | e
      · exact c_rfz0 o (skE b) g0
      · exact c_rfz0 o (skE b) g0
      · obtain ⟨eb, rn', rc', cc, ct, ek, wc⟩ := o
        rw [eb]
        show hu (oR (1 : Int32)) s' (fun v s'' => hu (M_Mo_proto_j410 rec l2 p) t' (fun _ t2 => cdG rec s t l2 p Q v s'' → Q t2))
        rw [hu_R]
        intro a t2' E g
        have f40 : gI s' 18440 p = gI s 12939 0 := by
          rw [cc.1 _ _ (by unfold chX; decide) (by decide), I3 _ _ (fun z => absurd z.1 (by decide)) (fun z => absurd z.1 (by decide)), nn2.1 _ _ (by unfold chX; decide), i40]
        have f39 : gI s' 18439 p = v := by rw [cc.1 _ _ (by unfold chX; decide) (by decide), i39]
        have f41 : gI s' 18441 p = gI s3 18441 p := cc.1 _ _ (by unfold chX; decide) (by decide)
        have g49 : gA t' 49 0 p = gI s 12939 0 := by rw [ct.2.1 _ _ _ (by decide) (by decide), t49]
        have g50 : gA t' 50 0 p = v := by rw [ct.2.1 _ _ _ (by decide) (by decide), t50]
        have rks : (gI s 12939 0).toInt = rK s := rfl
        refine g.2 (by decide) t' rn' rc' ⟨by rw [f40, g49], by rw [f39, g50], ?_, ?_, ?_, fun j j0 j1 => ?_⟩ f40 wc.1 ⟨fun f j x y z => ?_, fun a i j x => ?_, fun j x => ?_⟩ ⟨fun f i x y z w q => ?_, fun a i j x y z => ?_, fun j x => ?_⟩ a t2' E
        · rw [f40]
          exact rc.2.2.2.1
        · rw [f39]
          exact va
        · rw [f40, f39]
          omega
        · rw [f40, f39] at j1
          rw [f40] at j0 ⊢
          rw [wc.2 j (by omega) (by omega), f41]
          omega
        · rw [cc.1 f j x y, I3 f j (fun q => z ⟨.inl q.1, q.2⟩) (fun q => z ⟨.inr (.inr q.1), q.2⟩), nn2.1 f j x, I f j (fun q => z ⟨.inr (.inl q.1), q.2⟩)]
        · rw [cc.2.1 a i j x, A3, nn2.A]
          rfl
        · rw [cc.2.2 j (by omega), A3, nn2.A]
          rfl
        · rw [ct.1 f i x y z w q, TI, nb2.1 f i x y z w]
        · rw [ct.2.1 a i j x y, T3 a i j (fun q => z ⟨.inl q.1, q.2.2⟩) (fun q => z ⟨.inr q.1, q.2.2⟩), nb2.2.2.1]
        · obtain ⟨w1, w2⟩ := ct.2.2 j (by omega)
          rw [w1, w2, T3 _ _ _ (fun z => absurd z.1 (by decide)) (fun z => absurd z.1 (by decide)), T3 _ _ _ (fun z => absurd z.1 (by decide)) (fun z => absurd z.1 (by decide)), nb2.2.2.1, nb2.2.2.1]
          exact ⟨rfl, rfl⟩
  · intro s2 t2 hf nn2
    rw [hu_B, hu_PI, hu_B, hu_GI, gI_sI, if_pos ⟨rfl, rfl⟩, hu_C]
    exact ⟨fun c => absurd c (by decide), fun _ => r_end (hf.ws (by decide)) (skk_C (skJ _ _) (skJ _ _)) (g0 _)⟩
