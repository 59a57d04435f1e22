/-! Both lookings over: one instruction. -/
/-- what the class asks of a place that is gone to -/
def gsC (s : S1) (p x : Int32) : Prop := ¬ x < 0 ∧ ¬ gI s 18439 p ≤ x ∧ ¬ dUs (gA s 104 0 (gI s 18440 p + x))
theorem reach_h (s : S1) (p x : Int32) : hu (M_Ch_mayBeReached p x) s (Ya s (gsC s p x)) := by
  unfold M_Ch_mayBeReached M_Ch_mayBeReached_j33 gsC
  rw [hu_C]
  refine ⟨fun c => (hu_R _ _ _).2 (ya0 (fun y => y.1 c)), fun c => ?_⟩
  rw [hu_B, hu_GI, hu_C]
  refine ⟨fun d => (hu_R _ _ _).2 (ya0 (fun y => y.2.1 d)), fun d => ?_⟩
  rw [hu_B, hu_GI, hu_B, hu_AI]
  intro _
  exact hu_ask (uses_h s _) (fun n => (hu_R _ _ _).2 (ya1 ⟨c, d, n⟩)) (fun q => (hu_R _ _ _).2 (ya0 (fun y => y.2.2 q)))
section GW
variable {s : S1} {p i w : Int32}
theorem g182 (l5 : Int32) : hu (M_Ch_goesWhereItMay_j182 p i w l5) s (Ya s (l5 ≠ 0 → gsC s p (i + 1 + iushr w 14 - 131071))) := by
  unfold M_Ch_goesWhereItMay_j182 M_Ch_goesWhereItMay_j206
  rw [hu_C]
  refine ⟨fun c => (hu_R _ _ _).2 (ya1 (fun n => absurd c n)), fun c => ?_⟩
  exact hu_ask (reach_h s p _) (fun n => (hu_R _ _ _).2 (ya0 (fun y => n (y c)))) (fun q => (hu_R _ _ _).2 (ya1 (fun _ => q)))
theorem g164 (l5 l7 : Int32) : hu (M_Ch_goesWhereItMay_j164 p i w l5 l7) s (Ya s ((l7 ≠ 0 → gsC s p (i + 2)) ∧ (l5 ≠ 0 → gsC s p (i + 1 + iushr w 14 - 131071)))) := by
  unfold M_Ch_goesWhereItMay_j164
  rw [hu_C]
  refine ⟨fun c => hu_mono (g182 l5) fun _ _ q => q.iff ⟨fun z => ⟨fun n => absurd c n, z⟩, fun z => z.2⟩, fun c => ?_⟩
  exact hu_ask (reach_h s p _) (fun n => (hu_R _ _ _).2 (ya0 (fun y => n (y.1 c)))) (fun q => hu_mono (g182 l5) fun _ _ z => z.iff ⟨fun z => ⟨fun _ => q, z⟩, fun z => z.2⟩)
theorem g136 (l5 l6 l7 : Int32) : hu (M_Ch_goesWhereItMay_j136 p i w l5 l6 l7) s (Ya s ((l6 ≠ 0 → gA s 104 0 (gI s 18440 p + i + 1) &&& 63 = 30) ∧ (l7 ≠ 0 → gsC s p (i + 2)) ∧ (l5 ≠ 0 → gsC s p (i + 1 + iushr w 14 - 131071)))) := by
  unfold M_Ch_goesWhereItMay_j136
  rw [hu_C]
  refine ⟨fun c => hu_mono (g164 l5 l7) fun _ _ q => q.iff ⟨fun z => ⟨fun n => absurd c n, z⟩, fun z => z.2⟩, fun c => ?_⟩
  rw [hu_B, hu_GI, hu_B, hu_AI]
  intro _
  rw [hu_C]
  exact ⟨fun d => hu_mono (g164 l5 l7) fun _ _ q => q.iff ⟨fun z => ⟨fun _ => d, z⟩, fun z => z.2⟩, fun d => (hu_R _ _ _).2 (ya0 (fun y => d (y.1 c)))⟩
theorem g117 (l5 l6 l7 k : Int32) : hu (M_Ch_goesWhereItMay_j117 p i w l5 l6 l7 k) s (Ya s ((k ≠ 0 → i + 1 < gI s 18439 p) ∧ (l6 ≠ 0 → gA s 104 0 (gI s 18440 p + i + 1) &&& 63 = 30) ∧ (l7 ≠ 0 → gsC s p (i + 2)) ∧ (l5 ≠ 0 → gsC s p (i + 1 + iushr w 14 - 131071)))) := by
  unfold M_Ch_goesWhereItMay_j117
  rw [hu_C]
  refine ⟨fun c => hu_mono (g136 l5 l6 l7) fun _ _ q => q.iff ⟨fun z => ⟨fun n => absurd c n, z⟩, fun z => z.2⟩, fun c => ?_⟩
  rw [hu_B, hu_GI, hu_C]
  exact ⟨fun d => hu_mono (g136 l5 l6 l7) fun _ _ q => q.iff ⟨fun z => ⟨fun _ => d, z⟩, fun z => z.2⟩, fun d => (hu_R _ _ _).2 (ya0 (fun y => d (y.1 c)))⟩
def gon (o : Int32) : Prop := o ≠ 30 ∧ o ≠ 37 ∧ o ≠ 38
theorem g89 (o l5 l6 l7 : Int32) : hu (M_Ch_goesWhereItMay_j89 p i w o l5 l6 l7) s (Ya s ((gon o → i + 1 < gI s 18439 p) ∧ (l6 ≠ 0 → gA s 104 0 (gI s 18440 p + i + 1) &&& 63 = 30) ∧ (l7 ≠ 0 → gsC s p (i + 2)) ∧ (l5 ≠ 0 → gsC s p (i + 1 + iushr w 14 - 131071)))) := by
  unfold M_Ch_goesWhereItMay_j89 M_Ch_goesWhereItMay_j116
  have no : ¬ gon o → hu (M_Ch_goesWhereItMay_j117 p i w l5 l6 l7 0) s (Ya s ((gon o → i + 1 < gI s 18439 p) ∧ (l6 ≠ 0 → gA s 104 0 (gI s 18440 p + i + 1) &&& 63 = 30) ∧ (l7 ≠ 0 → gsC s p (i + 2)) ∧ (l5 ≠ 0 → gsC s p (i + 1 + iushr w 14 - 131071)))) := fun n => hu_mono (g117 l5 l6 l7 0) fun _ _ q => q.iff ⟨fun z => ⟨fun y => absurd y n, z.2⟩, fun z => ⟨fun y => absurd rfl y, z.2⟩⟩
  rw [hu_C]
  refine ⟨fun c => no (fun y => y.1 c), fun c1 => ?_⟩
  rw [hu_C]
  refine ⟨fun c => no (fun y => y.2.1 c), fun c2 => ?_⟩
  rw [hu_C]
  refine ⟨fun c => no (fun y => y.2.2 c), fun c3 => ?_⟩
  exact hu_mono (g117 l5 l6 l7 1) fun _ _ q => q.iff ⟨fun z => ⟨fun _ => z.1 (by decide), z.2⟩, fun z => ⟨fun _ => z.1 ⟨c1, c2, c3⟩, z.2⟩⟩
/-- where an instruction of the class may go -/
def gwC (s : S1) (p i w : Int32) : Prop := (gon (w &&& 63) → i + 1 < gI s 18439 p) ∧ ((30 < w &&& 63 ∧ w &&& 63 < 36) → gA s 104 0 (gI s 18440 p + i + 1) &&& 63 = 30) ∧ (((30 < w &&& 63 ∧ w &&& 63 < 36) ∨ (w &&& 63 = 3 ∧ ¬ iushr w 14 &&& 511 = 0)) → gsC s p (i + 2)) ∧ ((w &&& 63 = 30 ∨ w &&& 63 = 39 ∨ w &&& 63 = 40 ∨ w &&& 63 = 42) → gsC s p (i + 1 + iushr w 14 - 131071))
theorem goes_hC : hu (M_Ch_goesWhereItMay p i w) s (Ya s (gwC s p i w)) := by
  unfold M_Ch_goesWhereItMay gwC
  rw [hu_L]
  generalize w &&& 63 = o
  have j60 : ∀ l5 k : Int32, (k = 0 ∧ ¬ (30 < o ∧ o < 36) ∨ k = 1 ∧ (30 < o ∧ o < 36)) → hu (M_Ch_goesWhereItMay_j60 p i w o l5 k) s (Ya s ((gon o → i + 1 < gI s 18439 p) ∧ ((30 < o ∧ o < 36) → gA s 104 0 (gI s 18440 p + i + 1) &&& 63 = 30) ∧ (((30 < o ∧ o < 36) ∨ (o = 3 ∧ ¬ iushr w 14 &&& 511 = 0)) → gsC s p (i + 2)) ∧ (l5 ≠ 0 → gsC s p (i + 1 + iushr w 14 - 131071)))) := by
    intro l5 k hk
    have f : ∀ l7 : Int32, (l7 ≠ 0 ↔ ((30 < o ∧ o < 36) ∨ (o = 3 ∧ ¬ iushr w 14 &&& 511 = 0))) → hu (M_Ch_goesWhereItMay_j89 p i w o l5 k l7) s (Ya s ((gon o → i + 1 < gI s 18439 p) ∧ ((30 < o ∧ o < 36) → gA s 104 0 (gI s 18440 p + i + 1) &&& 63 = 30) ∧ (((30 < o ∧ o < 36) ∨ (o = 3 ∧ ¬ iushr w 14 &&& 511 = 0)) → gsC s p (i + 2)) ∧ (l5 ≠ 0 → gsC s p (i + 1 + iushr w 14 - 131071)))) := fun l7 h7 => by
      have h6 : k ≠ 0 ↔ (30 < o ∧ o < 36) := by
        rcases hk with ⟨a, b⟩ | ⟨a, b⟩
        · exact ⟨fun z => absurd a z, fun z => absurd z b⟩
        · exact ⟨fun _ => b, fun _ z => by rw [a] at z; exact absurd z (by decide)⟩
      refine hu_mono (g89 o l5 k l7) fun _ _ q => q.iff ?_
      rw [h6, h7]
    unfold M_Ch_goesWhereItMay_j60 M_Ch_goesWhereItMay_j88 M_Ch_goesWhereItMay_j84
    rw [hu_C]
    refine ⟨fun k0 => ?_, fun k0 => ?_⟩
    · have nt : ¬ (30 < o ∧ o < 36) := by
        rcases hk with ⟨a, b⟩ | ⟨a, b⟩
        · exact b
        · rw [a] at k0
          exact absurd k0 (by decide)
      rw [hu_C]
      refine ⟨fun o3 => ?_, fun o3 => f 0 ⟨fun z => absurd rfl z, fun z => z.elim (fun y => absurd y nt) (fun y => absurd y.1 o3)⟩⟩
      rw [hu_C]
      exact ⟨fun c0 => f 0 ⟨fun z => absurd rfl z, fun z => z.elim (fun y => absurd y nt) (fun y => absurd c0 y.2)⟩, fun c0 => f 1 ⟨fun _ => .inr ⟨o3, c0⟩, fun _ => by decide⟩⟩
    · have t : 30 < o ∧ o < 36 := by
        rcases hk with ⟨a, b⟩ | ⟨a, b⟩
        · exact absurd a k0
        · exact b
      exact f 1 ⟨fun _ => .inl t, fun _ => by decide⟩
  have j39 : ∀ k : Int32, hu (M_Ch_goesWhereItMay_j39 p i w o k) s (Ya s ((gon o → i + 1 < gI s 18439 p) ∧ ((30 < o ∧ o < 36) → gA s 104 0 (gI s 18440 p + i + 1) &&& 63 = 30) ∧ (((30 < o ∧ o < 36) ∨ (o = 3 ∧ ¬ iushr w 14 &&& 511 = 0)) → gsC s p (i + 2)) ∧ (k ≠ 0 → gsC s p (i + 1 + iushr w 14 - 131071)))) := by
    intro k
    unfold M_Ch_goesWhereItMay_j39 M_Ch_goesWhereItMay_j59
    rw [hu_C]
    refine ⟨fun c => j60 k 0 (.inl ⟨rfl, fun z => absurd z.1 (Int32.not_lt.mpr c)⟩), fun c => ?_⟩
    rw [hu_C]
    exact ⟨fun d => j60 k 0 (.inl ⟨rfl, fun z => absurd z.2 (Int32.not_lt.mpr d)⟩), fun d => j60 k 1 (.inr ⟨rfl, Int32.not_le.mp c, Int32.not_le.mp d⟩)⟩
  have yes : (o = 30 ∨ o = 39 ∨ o = 40 ∨ o = 42) → hu (M_Ch_goesWhereItMay_j34 p i w o) s (Ya s ((gon o → i + 1 < gI s 18439 p) ∧ ((30 < o ∧ o < 36) → gA s 104 0 (gI s 18440 p + i + 1) &&& 63 = 30) ∧ (((30 < o ∧ o < 36) ∨ (o = 3 ∧ ¬ iushr w 14 &&& 511 = 0)) → gsC s p (i + 2)) ∧ ((o = 30 ∨ o = 39 ∨ o = 40 ∨ o = 42) → gsC s p (i + 1 + iushr w 14 - 131071)))) := fun y => by
    unfold M_Ch_goesWhereItMay_j34
    exact hu_mono (j39 1) fun _ _ q => q.iff ⟨fun z => ⟨z.1, z.2.1, z.2.2.1, fun _ => z.2.2.2 (by decide)⟩, fun z => ⟨z.1, z.2.1, z.2.2.1, fun _ => z.2.2.2 y⟩⟩
  rw [hu_C]
  refine ⟨fun c => yes (.inl c), fun c1 => ?_⟩
  rw [hu_C]
  refine ⟨fun c => yes (.inr (.inl c)), fun c2 => ?_⟩
  rw [hu_C]
  refine ⟨fun c => yes (.inr (.inr (.inl c))), fun c3 => ?_⟩
  rw [hu_C]
  refine ⟨fun c => yes (.inr (.inr (.inr c))), fun c4 => ?_⟩
  exact hu_mono (j39 0) fun _ _ q => q.iff ⟨fun z => ⟨z.1, z.2.1, z.2.2.1, fun y => absurd y (fun y => y.elim c1 (fun y => y.elim c2 (fun y => y.elim c3 c4)))⟩, fun z => ⟨z.1, z.2.1, z.2.2.1, fun y => absurd rfl y⟩⟩
/-- the first register of the row that an instruction uses -/
def fsR (u : Int32) : Int32 := if u &&& 63 = 38 then iushr u 6 &&& 255 else (iushr u 6 &&& 255) + 1
def kpC (s : S1) (p i w : Int32) : Prop := (dUs w → ¬ i = 0 ∧ dMk (gA s 104 0 (gI s 18440 p + i - 1))) ∧ (dMk w → dUs (gA s 104 0 (gI s 18440 p + i + 1)) ∧ ¬ (iushr w 6 &&& 255) < fsR (gA s 104 0 (gI s 18440 p + i + 1)))
theorem keeps_hC : hu (M_Ch_keepsOpenRows p i w) s (Ya s (kpC s p i w)) := by
  have j80 : ∀ u k0 k1 : Int32, k1 + k0 = fsR u → dMk w → ∀ A : Prop, A → u = gA s 104 0 (gI s 18440 p + i + 1) → hu (M_Ch_keepsOpenRows_j80 w u k0 k1) s (Ya s (A ∧ (dMk w → dUs (gA s 104 0 (gI s 18440 p + i + 1)) ∧ ¬ (iushr w 6 &&& 255) < fsR (gA s 104 0 (gI s 18440 p + i + 1))))) := by
    intro u k0 k1 e m A hA eu
    unfold M_Ch_keepsOpenRows_j80 M_Ch_keepsOpenRows_j108
    rw [hu_L, e, ← eu]
    refine hu_ask (uses_h s u) (fun n => (hu_R _ _ _).2 (ya0 (fun y => n (y.2 m).1))) fun q => ?_
    rw [hu_C]
    exact ⟨fun c => (hu_R _ _ _).2 (ya0 (fun y => (y.2 m).2 c)), fun c => (hu_R _ _ _).2 (ya1 ⟨hA, fun _ => ⟨q, c⟩⟩)⟩
  have j32 : ∀ A : Prop, A → hu (M_Ch_keepsOpenRows_j32 p i w) s (Ya s (A ∧ (dMk w → dUs (gA s 104 0 (gI s 18440 p + i + 1)) ∧ ¬ (iushr w 6 &&& 255) < fsR (gA s 104 0 (gI s 18440 p + i + 1))))) := by
    intro A hA
    unfold M_Ch_keepsOpenRows_j32
    refine hu_ask (opens_h s w) (fun n => (hu_R _ _ _).2 (ya1 ⟨hA, fun y => absurd y n⟩)) fun m => ?_
    rw [hu_B, hu_GI, hu_B, hu_AI]
    intro _
    rw [hu_C]
    refine ⟨fun c => j80 _ _ _ ?_ m A hA rfl, fun c => j80 _ _ _ ?_ m A hA rfl⟩
    · unfold fsR
      rw [if_pos c]
      exact Int32.add_zero _
    · unfold fsR
      rw [if_neg c]
  unfold M_Ch_keepsOpenRows kpC
  refine hu_ask (uses_h s w) (fun n => j32 _ (fun y => absurd y n)) fun q => ?_
  rw [hu_C]
  refine ⟨fun c => (hu_R _ _ _).2 (ya0 (fun y => (y.1 q).1 c)), fun c => ?_⟩
  rw [hu_B, hu_GI, hu_B, hu_AI]
  intro _
  exact hu_ask (opens_h s _) (fun n => (hu_R _ _ _).2 (ya0 (fun y => n (y.1 q).2))) (fun m => j32 _ (fun _ => ⟨c, m⟩))
end GW
/-- what the class asks of one instruction -/
def wfC (s : S1) (p i w : Int32) : Prop := ¬ 46 ≤ w &&& 63 ∧ nmC (w &&& 63) (iushr w 6 &&& 255) (iushr w 23) (iushr w 14 &&& 511) (iushr w 14) (gI s 18434 p) (gI s 18435 p) (gI s 18437 p) (gI s 18442 p) ∧ gwC s p i w ∧ kpC s p i w
theorem well_h (s : S1) (p i : Int32) : hu (M_Ch_isWellFormed p i) s (Ya s (wfC s p i (gA s 104 0 (gI s 18440 p + i)))) := by
  unfold M_Ch_isWellFormed M_Ch_isWellFormed_j53 wfC
  rw [hu_B, hu_GI, hu_B, hu_AI]
  intro _
  rw [hu_C]
  refine ⟨fun c => (hu_R _ _ _).2 (ya0 (fun y => y.1 c)), fun c => ?_⟩
  refine hu_ask (names_h s p _) (fun n => (hu_R _ _ _).2 (ya0 (fun y => n y.2.1))) fun h1 => ?_
  refine hu_ask goes_hC (fun n => (hu_R _ _ _).2 (ya0 (fun y => n y.2.2.1))) fun h2 => ?_
  exact hu_ask keeps_hC (fun n => (hu_R _ _ _).2 (ya0 (fun y => n y.2.2.2))) (fun h3 => (hu_R _ _ _).2 (ya1 ⟨c, h1, h2, h3⟩))
/-- what the reference asks of one instruction; u: the one behind it, or 0 -/
def wfR (t : S1) (p i w u : Int32) : Prop := (gA t 50 0 p ≤ i + 1 → ¬ gon (w &&& 63)) ∧ (dMk w → dUs u ∧ fsR u ≤ iushr w 6 &&& 255) ∧ (dUs w → ¬ i = 0 ∧ dMk (gA t 55 0 (gA t 49 0 p + i - 1))) ∧ (¬ w &&& 63 < 31 → ¬ 35 < w &&& 63 → u &&& 63 = 30 ∧ gsR t p (i + 2)) ∧ nmR (w &&& 63) (iushr w 6 &&& 255) (iushr w 23) (iushr w 14 &&& 511) (iushr w 14) i (gA t 44 0 p) (gA t 45 0 p) (gA t 48 0 p) (gA t 52 0 p) (gsR t p)
theorem formed_h (t : S1) (p i : Int32) : hu (M_Mo_formed p i) t (fun v t' => t' = sI (sI t 31 0 p) 30 0 (gA t 44 0 p) ∧ (v = 0 ∧ ¬ wfR t p i (gA t 55 0 (gA t 49 0 p + i)) (if gA t 50 0 p ≤ i + 1 then 0 else gA t 55 0 (gA t 49 0 p + i + 1)) ∨ v = 1 ∧ wfR t p i (gA t 55 0 (gA t 49 0 p + i)) (if gA t 50 0 p ≤ i + 1 then 0 else gA t 55 0 (gA t 49 0 p + i + 1)))) := by
  unfold M_Mo_formed
  rw [hu_B, hu_PI, hu_B, hu_AI]
  intro _
  rw [hu_B, hu_PI, hu_B, hu_AI]
  intro _
  rw [hu_B, hu_AI]
  intro _
  rw [hu_B, show M_Mo_op _ = oR _ from rfl, hu_R, hu_B, hu_AI]
  intro _
  show hu (oC (gA t 50 0 p ≤ i + 1) (M_Mo_formed_j52 p i (gA t 55 0 (gA t 49 0 p + i)) (gA t 55 0 (gA t 49 0 p + i) &&& 63) 0) (M_Mo_formed_j52 p i (gA t 55 0 (gA t 49 0 p + i)) (gA t 55 0 (gA t 49 0 p + i) &&& 63) 1)) (sI (sI t 31 0 p) 30 0 (gA t 44 0 p)) _
  have A : ∀ a k j, gA (sI (sI t 31 0 p) 30 0 (gA t 44 0 p)) a k j = gA t a k j := fun _ _ _ => rfl
  have i31 : gI (sI (sI t 31 0 p) 30 0 (gA t 44 0 p)) 31 0 = p := by rw [gI_sI, if_neg (fun z => absurd z.1 (by decide)), gI_sI, if_pos ⟨rfl, rfl⟩]
  have i30 : gI (sI (sI t 31 0 p) 30 0 (gA t 44 0 p)) 30 0 = gA t 44 0 p := by rw [gI_sI, if_pos ⟨rfl, rfl⟩]
  generalize sI (sI t 31 0 p) 30 0 (gA t 44 0 p) = T at *
  have gs : ∀ x, gsR T p x = gsR t p x := fun x => by
    unfold gsR
    rw [A, A, A]
  have gs' : gsR T p = gsR t p := funext gs
  generalize gA t 55 0 (gA t 49 0 p + i) = w
  -- what comes behind the first question, u known
  have j231 : hu (M_Mo_formed_j231 p i w (w &&& 63)) T (Ya T (nmR (w &&& 63) (iushr w 6 &&& 255) (iushr w 23) (iushr w 14 &&& 511) (iushr w 14) i (gA t 44 0 p) (gA t 45 0 p) (gA t 48 0 p) (gA t 52 0 p) (gsR t p))) := by
    unfold M_Mo_formed_j231
    refine ya_ret ?_
    have z := named_h (t := T) (p := p) (i := i) (w := w) (o := w &&& 63) i31 i30 (A _ _ _) (A _ _ _) (A _ _ _)
    rw [gs'] at z
    exact z
  have main : ∀ u : Int32, hu (M_Mo_formed_j106 p i w (w &&& 63) u) T (Ya T ((dMk w → dUs u ∧ fsR u ≤ iushr w 6 &&& 255) ∧ (dUs w → ¬ i = 0 ∧ dMk (gA t 55 0 (gA t 49 0 p + i - 1))) ∧ (¬ w &&& 63 < 31 → ¬ 35 < w &&& 63 → u &&& 63 = 30 ∧ gsR t p (i + 2)) ∧ nmR (w &&& 63) (iushr w 6 &&& 255) (iushr w 23) (iushr w 14 &&& 511) (iushr w 14) i (gA t 44 0 p) (gA t 45 0 p) (gA t 48 0 p) (gA t 52 0 p) (gsR t p))) := by
    intro u
    have j195 : ∀ A B : Prop, A → B → hu (M_Mo_formed_j195 p i w (w &&& 63) u) T (Ya T (A ∧ B ∧ (¬ w &&& 63 < 31 → ¬ 35 < w &&& 63 → u &&& 63 = 30 ∧ gsR t p (i + 2)) ∧ nmR (w &&& 63) (iushr w 6 &&& 255) (iushr w 23) (iushr w 14 &&& 511) (iushr w 14) i (gA t 44 0 p) (gA t 45 0 p) (gA t 48 0 p) (gA t 52 0 p) (gsR t p))) := by
      intro A1 B1 hA hB
      unfold M_Mo_formed_j195
      rw [hu_C]
      refine ⟨fun c => hu_mono j231 fun _ _ q => q.iff ⟨fun z => ⟨hA, hB, fun n => absurd c n, z⟩, fun z => z.2.2.2⟩, fun c => ?_⟩
      rw [hu_C]
      refine ⟨fun d => hu_mono j231 fun _ _ q => q.iff ⟨fun z => ⟨hA, hB, fun _ n => absurd d n, z⟩, fun z => z.2.2.2⟩, fun d => ?_⟩
      rw [hu_B, show M_Mo_op u = oR (u &&& 63) from rfl, hu_R, hu_C]
      refine ⟨fun e => ?_, fun e => (hu_R _ _ _).2 (ya0 (fun y => e (y.2.2.1 c d).1))⟩
      have gg := goes_h T (i + 2)
      rw [i31, gs] at gg
      exact hu_ask gg (fun n => (hu_R _ _ _).2 (ya0 (fun y => n (y.2.2.1 c d).2))) (fun q => hu_mono j231 fun _ _ z => z.iff ⟨fun z => ⟨hA, hB, fun _ _ => ⟨e, q⟩, z⟩, fun z => z.2.2.2⟩)
    have j161 : ∀ A : Prop, A → hu (M_Mo_formed_j161 p i w (w &&& 63) u) T (Ya T (A ∧ (dUs w → ¬ i = 0 ∧ dMk (gA t 55 0 (gA t 49 0 p + i - 1))) ∧ (¬ w &&& 63 < 31 → ¬ 35 < w &&& 63 → u &&& 63 = 30 ∧ gsR t p (i + 2)) ∧ nmR (w &&& 63) (iushr w 6 &&& 255) (iushr w 23) (iushr w 14 &&& 511) (iushr w 14) i (gA t 44 0 p) (gA t 45 0 p) (gA t 48 0 p) (gA t 52 0 p) (gsR t p))) := by
      intro A1 hA
      unfold M_Mo_formed_j161
      refine hu_ask (rUses_h T w) (fun n => j195 _ _ hA (fun y => absurd y n)) fun q => ?_
      rw [hu_C]
      refine ⟨fun c => (hu_R _ _ _).2 (ya0 (fun y => (y.2.1 q).1 c)), fun c => ?_⟩
      rw [hu_B, hu_AI]
      intro _
      rw [hu_B, hu_AI]
      intro _
      rw [A, A]
      exact hu_ask (rMakes_h T _) (fun n => (hu_R _ _ _).2 (ya0 (fun y => n (y.2.1 q).2))) (fun m => j195 _ _ hA (fun _ => ⟨c, m⟩))
    unfold M_Mo_formed_j106
    refine hu_ask (rMakes_h T w) (fun n => j161 _ (fun y => absurd y n)) fun m => ?_
    rw [hu_B, show M_Mo_op u = oR (u &&& 63) from rfl, hu_R, hu_C]
    have j140 : ∀ k : Int32, k = fsR u → hu (M_Mo_formed_j140 p i w (w &&& 63) u k) T (Ya T ((dMk w → dUs u ∧ fsR u ≤ iushr w 6 &&& 255) ∧ (dUs w → ¬ i = 0 ∧ dMk (gA t 55 0 (gA t 49 0 p + i - 1))) ∧ (¬ w &&& 63 < 31 → ¬ 35 < w &&& 63 → u &&& 63 = 30 ∧ gsR t p (i + 2)) ∧ nmR (w &&& 63) (iushr w 6 &&& 255) (iushr w 23) (iushr w 14 &&& 511) (iushr w 14) i (gA t 44 0 p) (gA t 45 0 p) (gA t 48 0 p) (gA t 52 0 p) (gsR t p))) := by
      intro k ek
      unfold M_Mo_formed_j140
      rw [ek]
      refine hu_ask (rUses_h T u) (fun n => (hu_R _ _ _).2 (ya0 (fun y => n (y.1 m).1))) fun q => ?_
      rw [hu_B, show M_Mo_a w = oR ((w >>> (6 &&& 31)) &&& 255) from rfl, hu_R, sh6, hu_C]
      exact ⟨fun c => j161 _ (fun _ => ⟨q, c⟩), fun c => (hu_R _ _ _).2 (ya0 (fun y => c (y.1 m).2))⟩
    refine ⟨fun c => ?_, fun c => ?_⟩
    · rw [hu_B, show M_Mo_a u = oR ((u >>> (6 &&& 31)) &&& 255) from rfl, hu_R, sh6]
      refine j140 _ ?_
      unfold fsR
      rw [if_pos c]
    · rw [hu_B, show M_Mo_a u = oR ((u >>> (6 &&& 31)) &&& 255) from rfl, hu_R, sh6]
      refine j140 _ ?_
      unfold fsR
      rw [if_neg c]
  have go : ∀ (P : Prop) (f : M Int32), hu f T (Ya T P) → ∀ (Q : Prop), (P ↔ Q) → hu f T (fun v t' => t' = T ∧ (v = 0 ∧ ¬ Q ∨ v = 1 ∧ Q)) := fun P f h Q e => hu_mono h fun _ _ q => Ya.iff q e
  rw [hu_C]
  unfold wfR
  refine ⟨fun c => ?_, fun c => ?_⟩
  · rw [if_pos c]
    have j82 : ¬ gon (w &&& 63) → hu (M_Mo_formed_j82 p i w (w &&& 63) 0) T (fun v t' => t' = T ∧ (v = 0 ∧ ¬ ((gA t 50 0 p ≤ i + 1 → ¬ gon (w &&& 63)) ∧ (dMk w → dUs 0 ∧ fsR 0 ≤ iushr w 6 &&& 255) ∧ (dUs w → ¬ i = 0 ∧ dMk (gA t 55 0 (gA t 49 0 p + i - 1))) ∧ (¬ w &&& 63 < 31 → ¬ 35 < w &&& 63 → (0 : Int32) &&& 63 = 30 ∧ gsR t p (i + 2)) ∧ nmR (w &&& 63) (iushr w 6 &&& 255) (iushr w 23) (iushr w 14 &&& 511) (iushr w 14) i (gA t 44 0 p) (gA t 45 0 p) (gA t 48 0 p) (gA t 52 0 p) (gsR t p)) ∨ v = 1 ∧ ((gA t 50 0 p ≤ i + 1 → ¬ gon (w &&& 63)) ∧ (dMk w → dUs 0 ∧ fsR 0 ≤ iushr w 6 &&& 255) ∧ (dUs w → ¬ i = 0 ∧ dMk (gA t 55 0 (gA t 49 0 p + i - 1))) ∧ (¬ w &&& 63 < 31 → ¬ 35 < w &&& 63 → (0 : Int32) &&& 63 = 30 ∧ gsR t p (i + 2)) ∧ nmR (w &&& 63) (iushr w 6 &&& 255) (iushr w 23) (iushr w 14 &&& 511) (iushr w 14) i (gA t 44 0 p) (gA t 45 0 p) (gA t 48 0 p) (gA t 52 0 p) (gsR t p)))) := fun n => by
      unfold M_Mo_formed_j82
      rw [hu_C]
      exact ⟨fun _ => go _ _ (main 0) _ ⟨fun z => ⟨fun _ => n, z⟩, fun z => z.2⟩, fun z => absurd rfl z⟩
    unfold M_Mo_formed_j52
    rw [hu_C]
    refine ⟨fun _ => ?_, fun z => absurd rfl z⟩
    rw [hu_C]
    refine ⟨fun d => j82 (fun y => y.1 d), fun d1 => ?_⟩
    rw [hu_C]
    refine ⟨fun d => j82 (fun y => y.2.1 d), fun d2 => ?_⟩
    rw [hu_C]
    refine ⟨fun d => j82 (fun y => y.2.2 d), fun d3 => ?_⟩
    rw [hu_R]
    exact ⟨rfl, .inl ⟨rfl, fun y => y.1 c ⟨d1, d2, d3⟩⟩⟩
  · rw [if_neg c]
    unfold M_Mo_formed_j52
    rw [hu_C]
    refine ⟨fun z => absurd z (by decide), fun _ => ?_⟩
    unfold M_Mo_formed_j82
    rw [hu_C]
    refine ⟨fun z => absurd z (by decide), fun _ => ?_⟩
    rw [hu_B, hu_AI]
    intro _
    rw [hu_B, hu_AI]
    intro _
    rw [A, A]
    exact go _ _ (main _) _ ⟨fun z => ⟨fun y => absurd y c, z⟩, fun z => z.2⟩
