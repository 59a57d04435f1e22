/-! Both readings: constants. -/
theorem oB_L {α β γ : Type} (x : α) (g : α → M β) (h : β → M γ) : oB (oL x g) h = oL x (fun y => oB (g y) h) := rfl
theorem r_SL {β γ : Type} {f : M β} {s t : S1} {Q : β → S1 → γ → S1 → Prop} {a : Nat} {n i j : Int32} {x : Int64} {R : Unit → M γ} (k : (0 ≤ j ∧ j < n) → hu f s (fun r s2 => hu (R ()) (sB t a i j x) (Q r s2))) : hu f s (fun r s2 => hu (oB (oSL a n i j x) R) t (Q r s2)) := fun r s2 E => by
  show hu _ _ (Q r s2)
  rw [hu_B, hu_SL]
  exact fun c => k c r s2 E
/-- both go on to the same place -/
theorem Rn5.adv {s t : S1} {x y : Int32} (h : Rn5 s t) (hx : 0 ≤ x.toInt ∧ x.toInt ≤ rLn s) : Rn5 (sI s 12942 0 x) (sI (sI t 29 0 y) 28 0 x) := by
  obtain ⟨h1, h2, ⟨a1, a2, a3⟩, tp, h5, h6⟩ := h
  have I : ∀ g j, g ≠ 12942 → gI (sI s 12942 0 x) g j = gI s g j := fun g j z => by rw [gI_sI, if_neg (fun y => z y.1)]
  have J : ∀ g j, g ≠ 28 → g ≠ 29 → gI (sI (sI t 29 0 y) 28 0 x) g j = gI t g j := fun g j z w => by rw [gI_sI, if_neg (fun y => z y.1), gI_sI, if_neg (fun y => w y.1)]
  have i2 : gI (sI s 12942 0 x) 12942 0 = x := by rw [gI_sI, if_pos ⟨rfl, rfl⟩]
  have j8 : gI (sI (sI t 29 0 y) 28 0 x) 28 0 = x := by rw [gI_sI, if_pos ⟨rfl, rfl⟩]
  refine ⟨by rw [i2, j8], by rw [I _ _ (by decide), J _ _ (by decide) (by decide)]; exact h2, ?_, fun j j0 j1 => ?_, ⟨by rw [I _ _ (by decide)]; exact h5.1, by rw [I _ _ (by decide), J _ _ (by decide) (by decide)]; exact h5.2⟩, by rw [J _ _ (by decide) (by decide)]; exact h6⟩
  · unfold Ar rAt rLn
    rw [i2, I _ _ (by decide)]
    exact ⟨hx.1, hx.2, a3⟩
  · unfold rLn at j1
    rw [I _ _ (by decide)] at j1
    exact tp j j0 j1
theorem Rn5.adv1 {s t : S1} {x : Int32} (h : Rn5 s t) (hx : 0 ≤ x.toInt ∧ x.toInt ≤ rLn s) : Rn5 (sI s 12942 0 x) (sI t 28 0 x) := by
  have z := h.adv (y := gI t 29 0) hx
  rw [sI_self t 29 0 _ rfl] at z
  exact z
/-- the class's number alone -/
theorem cnum {s : S1} {k : Int32} (hk : 0 ≤ k.toInt ∧ k.toInt ≤ 4) (ha : Ar s) (l : rAt s + k.toInt ≤ rLn s) : hu (M_Ch_readNumber k) s (fun _ s' => s' = sI s 12942 0 (gI s 12942 0 + k)) := by
  obtain ⟨a1, a2, a3⟩ := id ha
  have ra : (gI s 12942 0).toInt = rAt s := rfl
  have rl : (gI s 12941 0).toInt = rLn s := rfl
  have ea : (gI s 12942 0 + k).toInt = rAt s + k.toInt := by rw [ktI_add]; omega
  simp only [M_Ch_readNumber, hu_B, hu_C, hu_R, hu_GI, hu_PI]
  refine ⟨fun _ => ?_, fun c => ?_⟩
  · refine hu_mono (numL_ok hk ha l).det ?_
    rintro e s' ⟨es, ek, -⟩
    rw [es, ek]
  · rw [i32_le, ea] at c
    exact absurd l c
/-- the reference's number alone -/
theorem rnumL {t : S1} {k : Int32} (hk : 0 ≤ k.toInt ∧ k.toInt ≤ 8) : hu (oW M_Mo_number_L47 (k, 0, 0)) t (fun _ t' => t' = sI t 28 0 (gI t 28 0 + k)) := by
  refine hu_W (fun y t1 => ∃ i : Nat, (i : Int) ≤ k.toInt ∧ y.1 = k ∧ y.2.2 = Int32.ofNat i ∧ t1 = sI t 28 0 (gI t 28 0 + Int32.ofNat i)) ?_ _ t ⟨0, hk.1, rfl, rfl, (sI_self _ _ _ _ (by show gI t 28 0 = gI t 28 0 + 0; rw [Int32.add_zero])).symm⟩
  rintro ⟨y1, y2, y3⟩ t1 ⟨i, hi, ey1, ey3, et⟩
  dsimp only at ey1 ey3
  subst ey1 ey3
  have oi : (Int32.ofNat i).toInt = (i : Int) := oI (by omega)
  have g28 : gI t1 28 0 = gI t 28 0 + Int32.ofNat i := by rw [et, gI_sI, if_pos ⟨rfl, rfl⟩]
  simp only [M_Mo_number_L47, hu_B, hu_C, hu_R, hu_L, hu_GI, hu_AI, hu_PI, Sum.elim_inl, Sum.elim_inr]
  refine ⟨fun c => ?_, fun c _ => ?_⟩
  · have ek : Int32.ofNat i = y1 := toInt_inj (by rw [i32_le] at c; omega)
    rw [et, ek]
  · rw [i32_le] at c
    refine ⟨i + 1, by omega, trivial, ofN1 i, ?_⟩
    rw [g28, et, sI_sI, ← ofN1 i, Int32.add_assoc]
theorem r_num8 {β γ : Type} {f : M β} {s t : S1} {Q : β → S1 → γ → S1 → Prop} {R : Int64 → M γ} (h3 : gI t 3 0 = 0) (l : (8 : Int32) ≤ gI t 1 0 - gI t 28 0) (k : ∀ w, hu f s (fun r s2 => hu (R w) (sI (sI t 29 0 (gI t 28 0)) 28 0 (gI t 28 0 + 8)) (Q r s2))) : hu f s (fun r s2 => hu (oB (M_Mo_number 8) R) t (Q r s2)) := fun r s2 E => by
  show hu _ _ (Q r s2)
  rw [hu_B]
  unfold M_Mo_number
  simp only [hu_B, hu_C, hu_R, hu_GI, hu_PI]
  refine ⟨fun _ => ⟨fun _ => ?_, fun n => absurd l n⟩, fun n => absurd h3 n⟩
  refine hu_mono (rnumL (by decide)) ?_
  rintro w t' rfl
  exact k w r s2 E
theorem r_num8f {β γ : Type} {f : M β} {s t : S1} {Q : β → S1 → γ → S1 → Prop} {R : Int64 → M γ} (h3 : gI t 3 0 = 0) (l : ¬ (8 : Int32) ≤ gI t 1 0 - gI t 28 0) (k : hu f s (fun r s2 => hu (R 0) (sI (sI (sI t 29 0 (gI t 28 0)) 3 0 1) 4 0 (gI t 28 0)) (Q r s2))) : hu f s (fun r s2 => hu (oB (M_Mo_number 8) R) t (Q r s2)) := fun r s2 E => by
  show hu _ _ (Q r s2)
  rw [hu_B]
  unfold M_Mo_number M_Mo_bad
  simp only [hu_B, hu_C, hu_R, hu_GI, hu_PI]
  refine ⟨fun _ => ⟨fun n => absurd n l, fun _ => ⟨fun _ => k r s2 E, fun n => absurd ?_ n⟩⟩, fun n => absurd h3 n⟩
  rw [gI_sI, if_neg (fun z => absurd z.1 (by decide))]
  exact h3
def Kc5 (s s' : S1) : Prop := (∀ f j, ¬ chX f → f ≠ 12938 → gI s' f j = gI s f j) ∧ (∀ a i j, a ≠ 105 → gA s' a i j = gA s a i j)
def Kt (t t' : S1) : Prop := (∀ f i, f ≠ 3 → f ≠ 4 → f ≠ 28 → f ≠ 29 → f ≠ 25 → gI t' f i = gI t f i) ∧ (∀ a i j, a ≠ 57 → a ≠ 2 → gA t' a i j = gA t a i j)
theorem Kc5.refl (s : S1) : Kc5 s s := ⟨fun _ _ _ _ => rfl, fun _ _ _ _ => rfl⟩
theorem Kt.refl (s : S1) : Kt s s := ⟨fun _ _ _ _ _ _ _ => rfl, fun _ _ _ _ _ => rfl⟩
theorem Kc5.trans {s u v : S1} (a : Kc5 s u) (b : Kc5 u v) : Kc5 s v := ⟨fun f j x y => (b.1 f j x y).trans (a.1 f j x y), fun c i j x => (b.2 c i j x).trans (a.2 c i j x)⟩
theorem Kt.trans {s u v : S1} (a : Kt s u) (b : Kt u v) : Kt s v := ⟨fun f i x y z w q => (b.1 f i x y z w q).trans (a.1 f i x y z w q), fun c i j x y => (b.2 c i j x y).trans (a.2 c i j x y)⟩
theorem Nn.kc {s u : S1} (h : Nn s u) : Kc5 s u := ⟨fun f j x _ => h.1 f j x, fun a i j _ => h.A a i j⟩
theorem Nb.kt {s u : S1} (h : Nb s u) : Kt s u := ⟨fun f i x y z w _ => h.1 f i x y z w, fun a i j _ _ => h.2.2.1 a i j⟩
/-- the counts agree -/
def Rc (s t : S1) : Prop := gI s 12938 0 = gI t 25 0 ∧ gI s 12939 0 = gI t 26 0 ∧ 0 ≤ rC s ∧ 0 ≤ rK s ∧ rC s + rK s ≤ 20000
theorem Rc.of {s t s' t' : S1} (h : Rc s t) (a : gI s' 12938 0 = gI s 12938 0) (b : gI s' 12939 0 = gI s 12939 0) (c : gI t' 25 0 = gI t 25 0) (d : gI t' 26 0 = gI t 26 0) : Rc s' t' := by
  unfold Rc rC rK at h ⊢
  rw [a, b, c, d]
  exact h
theorem Rc.nu {s t s' t' : S1} (h : Rc s t) (a : Nn s s') (b : Nb t t') : Rc s' t' := h.of (a.1 _ _ (by unfold chX; decide)) (a.1 _ _ (by unfold chX; decide)) (b.1 _ _ (by decide) (by decide) (by decide) (by decide)) (b.1 _ _ (by decide) (by decide) (by decide) (by decide))
def kcI5 (s t : S1) (p n : Int32) (x : Int32 × Int32) (s1 : S1) (y : Int32 × Int32) (t1 : S1) : Prop := ∃ i, x = (p, i) ∧ y = (n, i) ∧ Rn5 s1 t1 ∧ Rc s1 t1 ∧ Kc5 s s1 ∧ Kt t t1
def kcO (s t : S1) (e : Unit ⊕ Unit ⊕ Unit ⊕ Unit ⊕ Unit) (s' : S1) (_ : Unit) (t' : S1) : Prop := Sum.elim (fun _ => Ff s' t') (Sum.elim (fun _ => Ff (rfz s' 4 1) t') (Sum.elim (fun _ => Ff (rfz s' 2 1) t') (Sum.elim (fun _ => Ff s' t') (fun _ => Rn5 s' t' ∧ Rc s' t' ∧ Kc5 s s' ∧ Kt t t')))) e
theorem kcPut {s t s3 t3 : S1} {p n i v : Int32} {l l' : Int64} {QQ : (Int32 × Int32) ⊕ (Unit ⊕ Unit ⊕ Unit ⊕ Unit ⊕ Unit) → S1 → (Int32 × Int32) ⊕ Unit → S1 → Prop} (qi : ∀ x' s' y' t', kcI5 s t p n x' s' y' t' → QQ (.inl x') s' (.inl y') t') (rn : Rn5 s3 t3) (rc : Rc s3 t3) (kc : Kc5 s s3) (kt : Kt t t3) (lt : rC s3 + rK s3 < 20000) :
    hu (oB (M_Ch_readConstant_j124 v l) fun v94 => oC (v94 = 0) (oR (Sum.inr (Sum.inr (Sum.inr (Sum.inr (Sum.inl ())))))) (oR (Sum.inl (p, i + 1)))) s3 (fun r s' => hu (M_Mo_readConstants_j184 n i v l') t3 (QQ r s')) := by
  have e1 : (1 : Int32).toInt = 1 := rfl
  obtain ⟨c1, c2, c3, c4, c5⟩ := id rc
  have rcc : (gI s3 12938 0).toInt = rC s3 := rfl
  have rkk : (gI s3 12939 0).toInt = rK s3 := rfl
  simp only [M_Ch_readConstant_j124, M_Mo_readConstants_j184, M_Mo_readConstants_j213, M_Va_set, oB_assoc, oB_C, oB_R]
  refine r_GI (r_ct rn.2.2.2.2.2 (r_GI (r_PI (r_SI fun _ => r_SL fun _ => ?_))))
  rw [hu_B, hu_GI, hu_B, hu_SI]
  intro _
  rw [hu_B, hu_GI, hu_B, hu_SL]
  intro _
  rw [hu_B, hu_GI, hu_B, hu_PI, hu_C]
  refine ⟨fun z => absurd z (by decide), fun _ => ?_⟩
  rw [hu_R, hu_R]
  have k : ∀ S T : S1, Rn5 S T → Kc5 s3 S → Kt t3 T → gI S 12938 0 = gI s3 12938 0 + 1 → gI T 25 0 = gI t3 25 0 + 1 → QQ (Sum.inl (p, i + 1)) S (Sum.inl (n, i + 1)) T := fun S T q1 q2 q3 q4 q5 => by
    refine qi _ _ _ _ ⟨i + 1, rfl, rfl, q1, ?_, kc.trans q2, kt.trans q3⟩
    have d1 : gI S 12939 0 = gI s3 12939 0 := q2.1 _ _ (by unfold chX; decide) (by decide)
    have d2 : gI T 26 0 = gI t3 26 0 := q3.1 _ _ (by decide) (by decide) (by decide) (by decide) (by decide)
    have d3 : (gI s3 12938 0 + 1).toInt = rC s3 + 1 := by rw [ktI_add, e1]; rw [e1]; omega
    unfold Rc rC rK
    rw [q4, q5, d1, d2, c1, c2, ← c1, ← c2]
    exact ⟨rfl, rfl, by omega, c4, by omega⟩
  refine k _ _ (Rn5.tB (Rn5.tA (Rn5.wt (Rn5.ws (Rn5.wB (Rn5.wA rn (by decide))) (by decide)) (by decide)) (by decide))) ⟨fun f j x y => ?_, fun c j k x => ?_⟩ ⟨fun f j _ _ _ _ y => ?_, fun c j k x z => ?_⟩ ?_ ?_
  · rw [gI_sI, if_neg (fun z => y z.1)]
    rfl
  · show gA (sA s3 105 _ _ _) c j k = _
    rw [gA_sA, if_neg (fun z => x z.1)]
  · show gI (sI t3 25 _ _) f j = _
    rw [gI_sI, if_neg (fun z => y z.1)]
  · show gA (sA (sI t3 25 _ _) 2 _ _ _) c j k = _
    rw [gA_sA, if_neg (fun y => z y.1)]
    rfl
  · rw [gI_sI, if_pos ⟨rfl, rfl⟩]
    rfl
  · show gI (sI t3 25 0 (gI t3 25 0 + 1)) 25 0 = _
    rw [gI_sI, if_pos ⟨rfl, rfl⟩]
theorem kcL5 {s t : S1} {p n : Int32} (rn : Rn5 s t) (rc : Rc s t) (en : gI s 18437 p = n) :
    hu (oW M_Ch_readConstants_L28 (p, 0)) s (fun e s' => hu (oW M_Mo_readConstants_L26 (n, 0)) t (kcO s t e s')) := by
  have e0 : (0 : Int32).toInt = 0 := rfl
  have e1 : (1 : Int32).toInt = 1 := rfl
  have e2 : (2 : Int32).toInt = 2 := rfl
  have e4 : (4 : Int32).toInt = 4 := rfl
  have e5 : (5 : Int32).toInt = 5 := rfl
  have e8 : (8 : Int32).toInt = 8 := rfl
  have e20 : (20000 : Int32).toInt = 20000 := rfl
  have skL : ∀ y, Skk (M_Mo_readConstants_L26 y) := fun y => skk_Mo_readConstants_L26 y
  refine hu2U (kcI5 s t p n) ?_ _ s _ t ⟨0, rfl, rfl, rn, rc, Kc5.refl s, Kt.refl t⟩
  rintro x s1 y t1 ⟨i, rfl, rfl, rn1, rc1, kc1, kt1⟩
  have q7 : gI s1 18437 p = n := by rw [kc1.1 _ _ (by unfold chX; decide) (by decide)]; exact en
  have qi : ∀ x' s' y' t', kcI5 s t p n x' s' y' t' → lpQ M_Mo_readConstants_L26 (kcI5 s t p n) (kcO s t) (.inl x') s' (.inl y') t' := fun _ _ _ _ q => q
  have qo : ∀ e s' e2 t', kcO s t e s' e2 t' → lpQ M_Mo_readConstants_L26 (kcI5 s t p n) (kcO s t) (.inr e) s' (.inr e2) t' := fun _ _ _ _ q => q
  have qe : ∀ e s' sf, (∀ e2 t2, Ff sf t2 → kcO s t e s' e2 t2) → ∀ q t2, Ff sf t2 → lpQ M_Mo_readConstants_L26 (kcI5 s t p n) (kcO s t) (.inr e) s' q t2 := fun e s' sf h => lp_end skL h
  generalize lpQ M_Mo_readConstants_L26 (kcI5 s t p n) (kcO s t) = QQ at *
  unfold M_Ch_readConstants_L28 M_Mo_readConstants_L26
  rw [hu_B, hu_GI, q7, hu_C]
  refine ⟨fun c => r_ct c ?_, fun c => r_cf c (r_GI (r_ct rn1.2.2.2.2.2 ?_))⟩
  · rw [hu_R, hu_R]
    exact qo _ _ _ _ ⟨rn1, rc1, kc1, kt1⟩
  refine numC (k := 1) (by decide) rn1 ?_ ?_
  · rintro v s2 w t2 ⟨rn2, nn2, nb2, ew, v1, -, eat, e29⟩
    obtain ⟨va, vb⟩ := v1 rfl
    have kc2 := kc1.trans nn2.kc
    have kt2 := kt1.trans nb2.kt
    have rc2 := rc1.nu nn2 nb2
    obtain ⟨c1, c2, c3, c4, c5⟩ := id rc2
    have rcc : (gI s2 12938 0).toInt = rC s2 := rfl
    have rkk : (gI s2 12939 0).toInt = rK s2 := rfl
    have f3 : gI t2 3 0 = 0 := rn2.2.2.2.2.2
    have pl : gI s2 12942 0 - 1 = gI t2 29 0 := by rw [eat, e29, Int32.add_sub_cancel]
    have sm : (gI s2 12938 0 + gI s2 12939 0).toInt = rC s2 + rK s2 := by rw [ktI_add]; omega
    have sm2 : (gI t2 25 0 + gI t2 26 0).toInt = rC s2 + rK s2 := by rw [← c1, ← c2]; exact sm
    rw [hu_C]
    refine ⟨fun _ => ?_, fun c => absurd (nn0 va) c⟩
    refine r_GI (r_ct f3 (r_GI (r_GI ?_)))
    rw [ew, hu_B, hu_GI, hu_B, hu_GI, hu_C]
    refine ⟨fun c => ?_, fun c => ?_⟩
    · rw [i32_lt, sm, e20] at c
      refine r_cf (fun z => by rw [z, e20] at sm2; omega) ?_
      unfold M_Mo_readConstants_j78
      rw [hu_C]
      refine ⟨fun d => r_cf ?_ ?_, fun d => r_ct ?_ ?_⟩
      · rw [i32_le, e4] at d
        rw [i32_le, e5]
        omega
      · simp only [M_Mo_readConstants_j90, M_Ch_readConstant, oB_assoc, oB_C, oB_L, oB_R]
        refine r_need1 ?_
        rw [hu_C]
        refine ⟨fun d3 => r_ct d3 ?_, fun d3 => r_cf d3 ?_⟩
        · -- an integer
          obtain ⟨h1, h2, ⟨a1, a2, a3⟩, -⟩ := id rn2
          have ra : (gI s2 12942 0).toInt = rAt s2 := rfl
          have es : (gI t2 1 0 - gI t2 28 0).toInt = rLn s2 - rAt s2 := by
            rw [← h1, ← h2, ktI_sub]
            show -2147483648 ≤ rLn s2 - rAt s2 ∧ rLn s2 - rAt s2 < 2147483648
            omega
          have ea : (gI s2 12942 0 + 8).toInt = rAt s2 + 8 := by rw [ktI_add, e8]; rw [e8]; omega
          rw [hu_B, hu_GI, hu_B, hu_GI, hu_C]
          refine ⟨fun d => ?_, fun d => ?_⟩
          · rw [i32_le, ea] at d
            have d : rAt s2 + 8 ≤ rLn s2 := d
            refine r_num8 f3 (by rw [i32_le, es, e8]; omega) fun w8 => ?_
            have nk : ¬ v = 4 := fun z => by rw [d3] at z; exact absurd z (by decide)
            simp only [M_Mo_readConstants_j110]
            refine r_cf nk ?_
            rw [hu_B]
            refine hu_mono (cnum (s := s2) (k := 4) (by decide) ⟨a1, a2, a3⟩ (by rw [e4]; omega)) ?_
            rintro _ s3 rfl
            have ea4 : rAt (sI s2 12942 0 (gI s2 12942 0 + 4)) = rAt s2 + 4 := by
              show (gI (sI s2 12942 0 (gI s2 12942 0 + 4)) 12942 0).toInt = _
              rw [gI_sI, if_pos ⟨rfl, rfl⟩, ktI_add, e4]
              rw [e4]
              omega
            have el4 : rLn (sI s2 12942 0 (gI s2 12942 0 + 4)) = rLn s2 := by
              show (gI (sI s2 12942 0 (gI s2 12942 0 + 4)) 12941 0).toInt = _
              rw [gI_sI, if_neg (fun z => absurd z.1 (by decide))]
            rw [hu_L, hu_B]
            refine hu_mono (cnum (k := 4) (by decide) ⟨by omega, by omega, by omega⟩ (by rw [e4]; omega)) ?_
            rintro _ s4 rfl
            rw [hu_L]
            have e88 : gI (sI s2 12942 0 (gI s2 12942 0 + 4)) 12942 0 + 4 = gI s2 12942 0 + 8 := by
              rw [gI_sI, if_pos ⟨rfl, rfl⟩, Int32.add_assoc]
              rfl
            rw [e88, sI_sI, ← h1]
            have rn3 : Rn5 (sI s2 12942 0 (gI s2 12942 0 + 8)) (sI (sI t2 29 0 (gI s2 12942 0)) 28 0 (gI s2 12942 0 + 8)) := rn2.adv (by rw [ea]; omega)
            have I : ∀ f j, f ≠ 12942 → gI (sI s2 12942 0 (gI s2 12942 0 + 8)) f j = gI s2 f j := fun f j z => by rw [gI_sI, if_neg (fun y => z y.1)]
            have Jt : ∀ f j, f ≠ 28 → f ≠ 29 → gI (sI (sI t2 29 0 (gI s2 12942 0)) 28 0 (gI s2 12942 0 + 8)) f j = gI t2 f j := fun f j z w => by rw [gI_sI, if_neg (fun y => z y.1), gI_sI, if_neg (fun y => w y.1)]
            refine kcPut qi rn3 (rc2.of (I _ _ (by decide)) (I _ _ (by decide)) (Jt _ _ (by decide) (by decide)) (Jt _ _ (by decide) (by decide))) (kc2.trans ⟨fun f j x _ => I f j (fun z => x (.inl z)), fun _ _ _ _ => rfl⟩) (kt2.trans ⟨fun f j _ _ x y _ => Jt f j x y, fun _ _ _ _ _ => rfl⟩) ?_
            unfold rC rK
            rw [I _ _ (by decide), I _ _ (by decide)]
            exact c
          · rw [i32_le, ea] at d
            have d : ¬ rAt s2 + 8 ≤ rLn s2 := d
            refine r_num8f f3 (fun z => by rw [i32_le, es, e8] at z; omega) ?_
            simp only [M_Ch_refuse, oB_assoc, oB_R]
            rw [hu_B, hu_GI, hu_B, hu_PI, hu_B, hu_PI, hu_B, hu_K]
            intro _
            rw [hu_C]
            refine ⟨fun _ => r_endf (sf := sI (sI s2 12943 0 1) 12944 0 (gI s2 12942 0)) ?_ (by repeat' with_reducible (first | apply skk_B | apply skk_C | apply skk_L | exact skk_R _ | exact skk_GI _ _ | exact skk_AI _ _ _ _ | exact skk_SI | exact skk_SL | exact skk_K _ | exact skk_PI (by decide) | exact skk_Mo_number _ | exact skk_Mo_need _ | exact skk_Mo_bad _ _ | exact skk_Mo_upvalue_j76 _ _ | exact skk_Mo_upvalue_j73 _ _ _ | exact skk_Mo_upvalue_j65 _ _ _ _ | exact skk_Mo_upvalue_j22 _ _ _ | exact skk_Mo_upvalue_j25 _ _ | exact skk_Mo_upvalue _ | exact skk_Va_set _ _ _ _ _ | exact skk_Mo_readConstants_j213 _ _ | exact skk_Mo_readConstants_j184 _ _ _ _ | exact skk_Mo_readConstants_j173 _ _ _ _ _ | exact skk_Mo_readConstants_j110 _ _ _ _ | exact skk_Mo_readConstants_j90 _ _ _ _ | exact skk_Mo_readConstants_j78 _ _ _ | exact skk_Mo_readConstants_L26 _ | exact skk_Mo_readConstants _ | exact skk_Mo_proto_L237 hr _ | exact skk_Mo_proto_j365 hr _ _ _ _ _ _ | exact skk_Mo_proto_L307 hr _ | exact skk_Mo_proto_L458 hr _ | exact skk_Mo_proto_j410 hr _ _ | exact skk_Mo_proto_j283 hr _ _ _ _ | exact skk_Mo_proto_j213 hr _ _ _ _ | exact hr _ _ | apply skk_W | apply skk_E | intro _)) (qe _ _ _ (fun _ _ q => q)), fun z => absurd rfl z⟩
            rw [h1]
            exact ff_set (by decide)
        · rw [hu_C]
          refine ⟨fun d4 => ?_, fun d4 => ?_⟩
          · -- a string
            simp only [M_Mo_readConstants_j110, oB_assoc, oB_C, oB_L, oB_R]
            refine r_ct d4 ?_
            refine numC (k := 2) (by decide) rn2 ?_ ?_
            · rintro u s3 w3 t3 ⟨rn3, nn3, nb3, ew3, -, u2, -, -⟩
              obtain ⟨ua, ub⟩ := u2 rfl
              have kc3 := kc2.trans nn3.kc
              have kt3 := kt2.trans nb3.kt
              have rc3 := rc2.nu nn3 nb3
              have f33 : gI t3 3 0 = 0 := rn3.2.2.2.2.2
              obtain ⟨h1, h2, ⟨a1, a2, a3⟩, -⟩ := id rn3
              have ra : (gI s3 12942 0).toInt = rAt s3 := rfl
              have lt3 : rC s3 + rK s3 < 20000 := by
                unfold rC rK
                rw [nn3.1 _ _ (by unfold chX; decide), nn3.1 _ _ (by unfold chX; decide)]
                exact c
              have es : (gI t3 1 0 - gI t3 28 0).toInt = rLn s3 - rAt s3 := by
                rw [← h1, ← h2, ktI_sub]
                show -2147483648 ≤ rLn s3 - rAt s3 ∧ rLn s3 - rAt s3 < 2147483648
                omega
              have ea : (gI s3 12942 0 + u).toInt = rAt s3 + u.toInt := by rw [ktI_add]; omega
              rw [hu_C]
              refine ⟨fun _ => ?_, fun z => absurd (nn0 ua) z⟩
              refine r_GI (r_GI (r_SI fun _ => r_GI (r_ct f33 (r_GI (r_GI ?_)))))
              rw [ew3, hu_B, hu_GI, hu_B, hu_GI, hu_C]
              refine ⟨fun d => ?_, fun d => ?_⟩
              · rw [i32_le, ea] at d
                have d : rAt s3 + u.toInt ≤ rLn s3 := d
                refine r_ct (by show u ≤ gI t3 1 0 - gI t3 28 0; rw [i32_le, es]; omega) ?_
                simp only [M_Mo_readConstants_j173]
                refine r_GI (r_PI ?_)
                rw [hu_B, hu_GI, hu_L, hu_B, hu_GI, hu_B, hu_PI]
                show hu _ _ (fun r s' => hu (M_Mo_readConstants_j184 n i v u.toInt64) (sI (sA t3 57 0 (gI t3 25 0) (gI t3 28 0)) 28 0 (gI t3 28 0 + u)) _)
                rw [← h1]
                refine kcPut qi (Rn5.adv1 (rn3.tA (by decide)) (by rw [ea]; omega)) ?_ (kc3.trans ⟨fun f j x _ => by rw [gI_sI, if_neg (fun z => x (.inl z.1))], fun _ _ _ _ => rfl⟩) (kt3.trans ⟨fun f j _ _ x _ _ => ?_, fun a j k x _ => ?_⟩) ?_
                · refine rc3.of ?_ ?_ ?_ ?_
                  · rw [gI_sI, if_neg (fun z => absurd z.1 (by decide))]
                  · rw [gI_sI, if_neg (fun z => absurd z.1 (by decide))]
                  · rw [gI_sI, if_neg (fun z => absurd z.1 (by decide))]
                    rfl
                  · rw [gI_sI, if_neg (fun z => absurd z.1 (by decide))]
                    rfl
                · rw [gI_sI, if_neg (fun z => x z.1)]
                  rfl
                · show gA (sA t3 57 _ _ _) a j k = _
                  rw [gA_sA, if_neg (fun z => x z.1)]
                · unfold rC rK
                  rw [gI_sI, if_neg (fun z => absurd z.1 (by decide)), gI_sI, if_neg (fun z => absurd z.1 (by decide))]
                  exact lt3
              · rw [i32_le, ea] at d
                have d : ¬ rAt s3 + u.toInt ≤ rLn s3 := d
                refine r_cf (fun z => by have z : u ≤ gI t3 1 0 - gI t3 28 0 := z; rw [i32_le, es] at z; omega) ?_
                refine r_GI (r_bad (by exact f33) ?_)
                simp only [M_Ch_refuse, oB_assoc, oB_R]
                rw [hu_B, hu_GI, hu_B, hu_PI, hu_B, hu_PI, hu_B, hu_K]
                intro _
                rw [hu_C]
                refine ⟨fun _ => r_endf (sf := sI (sI s3 12943 0 1) 12944 0 (gI s3 12942 0)) ?_ (by repeat' with_reducible (first | apply skk_B | apply skk_C | apply skk_L | exact skk_R _ | exact skk_GI _ _ | exact skk_AI _ _ _ _ | exact skk_SI | exact skk_SL | exact skk_K _ | exact skk_PI (by decide) | exact skk_Mo_number _ | exact skk_Mo_need _ | exact skk_Mo_bad _ _ | exact skk_Mo_upvalue_j76 _ _ | exact skk_Mo_upvalue_j73 _ _ _ | exact skk_Mo_upvalue_j65 _ _ _ _ | exact skk_Mo_upvalue_j22 _ _ _ | exact skk_Mo_upvalue_j25 _ _ | exact skk_Mo_upvalue _ | exact skk_Va_set _ _ _ _ _ | exact skk_Mo_readConstants_j213 _ _ | exact skk_Mo_readConstants_j184 _ _ _ _ | exact skk_Mo_readConstants_j173 _ _ _ _ _ | exact skk_Mo_readConstants_j110 _ _ _ _ | exact skk_Mo_readConstants_j90 _ _ _ _ | exact skk_Mo_readConstants_j78 _ _ _ | exact skk_Mo_readConstants_L26 _ | exact skk_Mo_readConstants _ | exact skk_Mo_proto_L237 hr _ | exact skk_Mo_proto_j365 hr _ _ _ _ _ _ | exact skk_Mo_proto_L307 hr _ | exact skk_Mo_proto_L458 hr _ | exact skk_Mo_proto_j410 hr _ _ | exact skk_Mo_proto_j283 hr _ _ _ _ | exact skk_Mo_proto_j213 hr _ _ _ _ | exact hr _ _ | apply skk_W | apply skk_E | intro _)) (qe _ _ _ (fun _ _ q => q)), fun z => absurd rfl z⟩
                rw [h1]
                exact ff_set (by decide)
            · intro s3 t3 hf nn3
              rw [hu_C]
              refine ⟨fun z => absurd z (by decide), fun _ => ?_⟩
              rw [hu_C]
              exact ⟨fun _ => r_endf hf (by repeat' with_reducible (first | apply skk_B | apply skk_C | apply skk_L | exact skk_R _ | exact skk_GI _ _ | exact skk_AI _ _ _ _ | exact skk_SI | exact skk_SL | exact skk_K _ | exact skk_PI (by decide) | exact skk_Mo_number _ | exact skk_Mo_need _ | exact skk_Mo_bad _ _ | exact skk_Mo_upvalue_j76 _ _ | exact skk_Mo_upvalue_j73 _ _ _ | exact skk_Mo_upvalue_j65 _ _ _ _ | exact skk_Mo_upvalue_j22 _ _ _ | exact skk_Mo_upvalue_j25 _ _ | exact skk_Mo_upvalue _ | exact skk_Va_set _ _ _ _ _ | exact skk_Mo_readConstants_j213 _ _ | exact skk_Mo_readConstants_j184 _ _ _ _ | exact skk_Mo_readConstants_j173 _ _ _ _ _ | exact skk_Mo_readConstants_j110 _ _ _ _ | exact skk_Mo_readConstants_j90 _ _ _ _ | exact skk_Mo_readConstants_j78 _ _ _ | exact skk_Mo_readConstants_L26 _ | exact skk_Mo_readConstants _ | exact skk_Mo_proto_L237 hr _ | exact skk_Mo_proto_j365 hr _ _ _ _ _ _ | exact skk_Mo_proto_L307 hr _ | exact skk_Mo_proto_L458 hr _ | exact skk_Mo_proto_j410 hr _ _ | exact skk_Mo_proto_j283 hr _ _ _ _ | exact skk_Mo_proto_j213 hr _ _ _ _ | exact hr _ _ | apply skk_W | apply skk_E | intro _)) (qe _ _ _ (fun _ _ q => q)), fun z => absurd rfl z⟩
          · simp only [M_Mo_readConstants_j110]
            refine r_cf d4 ?_
            exact kcPut qi rn2 rc2 kc2 kt2 c
      · rw [i32_le, e4] at d
        rw [i32_le, e5]
        omega
      · simp only [M_Mo_readConstants_j90]
        refine r_need0 f3 (r_endf (sf := rfz s2 2 1) ?_ (by repeat' with_reducible (first | apply skk_B | apply skk_C | apply skk_L | exact skk_R _ | exact skk_GI _ _ | exact skk_AI _ _ _ _ | exact skk_SI | exact skk_SL | exact skk_K _ | exact skk_PI (by decide) | exact skk_Mo_number _ | exact skk_Mo_need _ | exact skk_Mo_bad _ _ | exact skk_Mo_upvalue_j76 _ _ | exact skk_Mo_upvalue_j73 _ _ _ | exact skk_Mo_upvalue_j65 _ _ _ _ | exact skk_Mo_upvalue_j22 _ _ _ | exact skk_Mo_upvalue_j25 _ _ | exact skk_Mo_upvalue _ | exact skk_Va_set _ _ _ _ _ | exact skk_Mo_readConstants_j213 _ _ | exact skk_Mo_readConstants_j184 _ _ _ _ | exact skk_Mo_readConstants_j173 _ _ _ _ _ | exact skk_Mo_readConstants_j110 _ _ _ _ | exact skk_Mo_readConstants_j90 _ _ _ _ | exact skk_Mo_readConstants_j78 _ _ _ | exact skk_Mo_readConstants_L26 _ | exact skk_Mo_readConstants _ | exact skk_Mo_proto_L237 hr _ | exact skk_Mo_proto_j365 hr _ _ _ _ _ _ | exact skk_Mo_proto_L307 hr _ | exact skk_Mo_proto_L458 hr _ | exact skk_Mo_proto_j410 hr _ _ | exact skk_Mo_proto_j283 hr _ _ _ _ | exact skk_Mo_proto_j213 hr _ _ _ _ | exact hr _ _ | apply skk_W | apply skk_E | intro _)) (qe _ _ _ (fun _ _ q => q)))
        unfold rfz
        rw [pl]
        exact ff_set (by decide)
    · rw [i32_lt, sm, e20] at c
      refine r_ct (toInt_inj (by rw [sm2, e20]; omega)) (r_GI (r_bad f3 ?_))
      refine r_endf (sf := rfz s2 4 1) ?_ (by repeat' with_reducible (first | apply skk_B | apply skk_C | apply skk_L | exact skk_R _ | exact skk_GI _ _ | exact skk_AI _ _ _ _ | exact skk_SI | exact skk_SL | exact skk_K _ | exact skk_PI (by decide) | exact skk_Mo_number _ | exact skk_Mo_need _ | exact skk_Mo_bad _ _ | exact skk_Mo_upvalue_j76 _ _ | exact skk_Mo_upvalue_j73 _ _ _ | exact skk_Mo_upvalue_j65 _ _ _ _ | exact skk_Mo_upvalue_j22 _ _ _ | exact skk_Mo_upvalue_j25 _ _ | exact skk_Mo_upvalue _ | exact skk_Va_set _ _ _ _ _ | exact skk_Mo_readConstants_j213 _ _ | exact skk_Mo_readConstants_j184 _ _ _ _ | exact skk_Mo_readConstants_j173 _ _ _ _ _ | exact skk_Mo_readConstants_j110 _ _ _ _ | exact skk_Mo_readConstants_j90 _ _ _ _ | exact skk_Mo_readConstants_j78 _ _ _ | exact skk_Mo_readConstants_L26 _ | exact skk_Mo_readConstants _ | exact skk_Mo_proto_L237 hr _ | exact skk_Mo_proto_j365 hr _ _ _ _ _ _ | exact skk_Mo_proto_L307 hr _ | exact skk_Mo_proto_L458 hr _ | exact skk_Mo_proto_j410 hr _ _ | exact skk_Mo_proto_j283 hr _ _ _ _ | exact skk_Mo_proto_j213 hr _ _ _ _ | exact hr _ _ | apply skk_W | apply skk_E | intro _)) (qe _ _ _ (fun _ _ q => q))
      unfold rfz
      rw [pl]
      exact ff_set (by decide)
  · intro s2 t2 hf nn2
    rw [hu_C]
    exact ⟨fun c => absurd c (by decide), fun _ => r_endf hf (by repeat' with_reducible (first | apply skk_B | apply skk_C | apply skk_L | exact skk_R _ | exact skk_GI _ _ | exact skk_AI _ _ _ _ | exact skk_SI | exact skk_SL | exact skk_K _ | exact skk_PI (by decide) | exact skk_Mo_number _ | exact skk_Mo_need _ | exact skk_Mo_bad _ _ | exact skk_Mo_upvalue_j76 _ _ | exact skk_Mo_upvalue_j73 _ _ _ | exact skk_Mo_upvalue_j65 _ _ _ _ | exact skk_Mo_upvalue_j22 _ _ _ | exact skk_Mo_upvalue_j25 _ _ | exact skk_Mo_upvalue _ | exact skk_Va_set _ _ _ _ _ | exact skk_Mo_readConstants_j213 _ _ | exact skk_Mo_readConstants_j184 _ _ _ _ | exact skk_Mo_readConstants_j173 _ _ _ _ _ | exact skk_Mo_readConstants_j110 _ _ _ _ | exact skk_Mo_readConstants_j90 _ _ _ _ | exact skk_Mo_readConstants_j78 _ _ _ | exact skk_Mo_readConstants_L26 _ | exact skk_Mo_readConstants _ | exact skk_Mo_proto_L237 hr _ | exact skk_Mo_proto_j365 hr _ _ _ _ _ _ | exact skk_Mo_proto_L307 hr _ | exact skk_Mo_proto_L458 hr _ | exact skk_Mo_proto_j410 hr _ _ | exact skk_Mo_proto_j283 hr _ _ _ _ | exact skk_Mo_proto_j213 hr _ _ _ _ | exact hr _ _ | apply skk_W | apply skk_E | intro _)) (qe _ _ _ (fun _ _ q => q))⟩
