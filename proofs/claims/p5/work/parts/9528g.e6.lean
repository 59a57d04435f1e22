/-! Both readings: code. -/
def Cc (p : Int32) (n0 : Int) (s s' : S1) : Prop := (∀ f j, ¬ chX f → f ≠ 12939 → gI s' f j = gI s f j) ∧ (∀ a i j, a ≠ 104 → gA s' a i j = gA s a i j) ∧ ∀ j : Int32, j.toInt < n0 → gA s' 104 0 j = gA s 104 0 j
def Ctt (n0 : Int) (t t' : S1) : Prop := (∀ f i, f ≠ 3 → f ≠ 4 → f ≠ 28 → f ≠ 29 → f ≠ 26 → gI t' f i = gI t f i) ∧ (∀ a i j, a ≠ 55 → a ≠ 56 → gA t' a i j = gA t a i j) ∧ ∀ j : Int32, j.toInt < n0 → gA t' 55 0 j = gA t 55 0 j ∧ gA t' 56 0 j = gA t 56 0 j
theorem Cc.refl (p : Int32) (n0 : Int) (s : S1) : Cc p n0 s s := ⟨fun _ _ _ _ => rfl, fun _ _ _ _ => rfl, fun _ _ => rfl⟩
theorem Ctt.refl (n0 : Int) (s : S1) : Ctt n0 s s := ⟨fun _ _ _ _ _ _ _ => rfl, fun _ _ _ _ _ => rfl, fun _ _ => ⟨rfl, rfl⟩⟩
theorem Cc.trans {p : Int32} {n0 : Int} {s u v : S1} (a : Cc p n0 s u) (b : Cc p n0 u v) : Cc p n0 s v := ⟨fun f j x y => (b.1 f j x y).trans (a.1 f j x y), fun c i j x => (b.2.1 c i j x).trans (a.2.1 c i j x), fun j x => (b.2.2 j x).trans (a.2.2 j x)⟩
theorem Ctt.trans {n0 : Int} {s u v : S1} (a : Ctt n0 s u) (b : Ctt n0 u v) : Ctt n0 s v := ⟨fun f i x y z w q => (b.1 f i x y z w q).trans (a.1 f i x y z w q), fun c i j x y => (b.2.1 c i j x y).trans (a.2.1 c i j x y), fun j x => ⟨(b.2.2 j x).1.trans (a.2.2 j x).1, (b.2.2 j x).2.trans (a.2.2 j x).2⟩⟩
theorem Nn.cc {p : Int32} {n0 : Int} {s u : S1} (h : Nn s u) : Cc p n0 s u := ⟨fun f j x _ => h.1 f j x, fun a i j _ => h.A a i j, fun j _ => h.A _ _ _⟩
theorem Nb.ctt {n0 : Int} {s u : S1} (h : Nb s u) : Ctt n0 s u := ⟨fun f i x y z w _ => h.1 f i x y z w, fun a i j _ _ => h.2.2.1 a i j, fun j _ => ⟨h.2.2.1 _ _ _, h.2.2.1 _ _ _⟩⟩
/-- the words that were read: their values, and from n0 on their places (x0: the first one's) -/
def Wc (n0 n : Int) (x0 : Int) (s t : S1) : Prop := (∀ j : Int32, 0 ≤ j.toInt → j.toInt < n → gA s 104 0 j = gA t 55 0 j) ∧ ∀ j : Int32, n0 ≤ j.toInt → j.toInt < n → (gA t 56 0 j).toInt = x0 + 4 * (j.toInt - n0)
def cdI5 (s t : S1) (p l2 n : Int32) (x : Int32 × Int32) (s1 : S1) (y : Int32 × Int32 × Int32 × Int32) (t1 : S1) : Prop := ∃ i : Nat, x = (p, Int32.ofNat i) ∧ y = (l2, p, n, Int32.ofNat i) ∧ (i : Int) ≤ n.toInt ∧ Rn5 s1 t1 ∧ Rc s1 t1 ∧ Cc p (rK s) s s1 ∧ Ctt (rK s) t t1 ∧ rK s1 = rK s + i ∧ rAt s1 = rAt s + 4 * i ∧ Wc (rK s) (rK s1) (rAt s) s1 t1
def cdO (s t : S1) (p l2 n : Int32) (e : Unit ⊕ Unit ⊕ Unit) (s' : S1) (e2 : (Int32 × Int32) ⊕ (Int32 × Int32)) (t' : S1) : Prop := Sum.elim (fun _ => Ff (rfz s' 1 0) t') (Sum.elim (fun _ => Ff (rfz s' 4 0) t') (fun _ => e2 = .inr (l2, p) ∧ Rn5 s' t' ∧ Rc s' t' ∧ Cc p (rK s) s s' ∧ Ctt (rK s) t t' ∧ rK s' = rK s + n.toInt ∧ Wc (rK s) (rK s') (rAt s) s' t')) e
theorem sub05 (x : Int32) : x - 0 = x := by
  rw [Int32.sub_eq_add_neg]
  show x + 0 = x
  exact Int32.add_zero x
/-- a number of four bytes, both places known to hold it -/
theorem num4 {β γ : Type} {s t : S1} {C : Int32 → M β} {R : Int64 → M γ} {Q : β → S1 → γ → S1 → Prop} (h : Rn5 s t) (l : rAt s + 4 ≤ rLn s) (good : ∀ v s' w t', nuP5 s t 4 v s' w t' → hu (C v) s' (fun r s2 => hu (R w) t' (Q r s2))) :
    hu (oB (M_Ch_readNumber 4) C) s (fun r s2 => hu (oB (M_Mo_number 4) R) t (Q r s2)) := by
  have hk : 0 ≤ (4 : Int32).toInt ∧ (4 : Int32).toInt ≤ 4 := by decide
  rw [hu_B]
  intro v s' E r s2 E2
  rw [hu_B]
  intro w t' E3
  rcases num2 hk h v s' E w t' E3 with q | q
  · exact good v s' w t' (nuG.p h hk q) r s2 E2
  · have := q.1
    have e4 : (4 : Int32).toInt = 4 := rfl
    omega
theorem cdL5 {rec : Int32 → Int32 → M (Unit)} (hr : ∀ a b, Skk (rec a b)) {s t : S1} {p l2 n : Int32} (rn : Rn5 s t) (rc : Rc s t) (en : gI s 18439 p = n) (n0 : 0 ≤ n.toInt) (wc : ∀ j : Int32, 0 ≤ j.toInt → j.toInt < rK s → gA s 104 0 j = gA t 55 0 j) :
    hu (oW M_Ch_readCode_L55 (p, 0)) s (fun e s' => hu (oW (M_Mo_proto_L307 rec) (l2, p, n, 0)) t (cdO s t p l2 n e s')) := by
  have e0 : (0 : Int32).toInt = 0 := rfl
  have e1 : (1 : Int32).toInt = 1 := rfl
  have e4 : (4 : Int32).toInt = 4 := rfl
  have e20 : (20000 : Int32).toInt = 20000 := rfl
  have skL : ∀ y, Skk (M_Mo_proto_L307 rec y) := fun y => skk_Mo_proto_L307 hr y
  refine hu2U (cdI5 s t p l2 n) ?_ _ s _ t ⟨0, rfl, rfl, n0, rn, rc, Cc.refl _ _ s, Ctt.refl _ t, by omega, by omega, wc, fun j a b => by omega⟩
  rintro x s1 y t1 ⟨i, rfl, rfl, hi, rn1, rc1, cc1, ct1, ek1, ea1, wc1⟩
  have nlt := Int32.toInt_lt n
  have oi : (Int32.ofNat i).toInt = (i : Int) := oI (by omega)
  have q9 : gI s1 18439 p = n := by rw [cc1.1 _ _ (by unfold chX; decide) (by decide)]; exact en
  have qi : ∀ x' s' y' t', cdI5 s t p l2 n x' s' y' t' → lpQ (M_Mo_proto_L307 rec) (cdI5 s t p l2 n) (cdO s t p l2 n) (.inl x') s' (.inl y') t' := fun _ _ _ _ q => q
  have qo : ∀ e s' e2 t', cdO s t p l2 n e s' e2 t' → lpQ (M_Mo_proto_L307 rec) (cdI5 s t p l2 n) (cdO s t p l2 n) (.inr e) s' (.inr e2) t' := fun _ _ _ _ q => q
  have qe : ∀ e s' sf, (∀ e2 t2, Ff sf t2 → cdO s t p l2 n e s' e2 t2) → ∀ q t2, Ff sf t2 → lpQ (M_Mo_proto_L307 rec) (cdI5 s t p l2 n) (cdO s t p l2 n) (.inr e) s' q t2 := fun e s' sf h => lp_end skL h
  generalize lpQ (M_Mo_proto_L307 rec) (cdI5 s t p l2 n) (cdO s t p l2 n) = QQ at *
  unfold M_Ch_readCode_L55 M_Mo_proto_L307
  rw [hu_B, hu_GI, q9, hu_C]
  refine ⟨fun c => r_ct c ?_, fun c => r_cf c (r_GI (r_ct rn1.2.2.2.2.2 (r_GI ?_)))⟩
  · rw [i32_le, oi] at c
    rw [hu_R, hu_R]
    exact qo _ _ _ _ ⟨rfl, rn1, rc1, cc1, ct1, by omega, wc1⟩
  rw [i32_le, oi] at c
  obtain ⟨h1, h2, ⟨a1, a2, a3⟩, tp, -, f3⟩ := id rn1
  obtain ⟨c1, c2, c3, c4, c5⟩ := id rc1
  have ra : (gI s1 12942 0).toInt = rAt s1 := rfl
  have rcc : (gI s1 12938 0).toInt = rC s1 := rfl
  have rkk : (gI s1 12939 0).toInt = rK s1 := rfl
  have ea : (gI s1 12942 0 + 4).toInt = rAt s1 + 4 := by rw [ktI_add, e4]; rw [e4]; omega
  rw [hu_B, hu_GI, hu_B, hu_GI, hu_C]
  refine ⟨fun d => ?_, fun d => ?_⟩
  · rw [i32_le, ea] at d
    have d : rAt s1 + 4 ≤ rLn s1 := d
    have sm : (gI s1 12938 0 + gI s1 12939 0).toInt = rC s1 + rK s1 := by rw [ktI_add]; omega
    rw [hu_B, hu_GI, hu_B, hu_GI, hu_C]
    refine ⟨fun d2 => ?_, fun d2 => ?_⟩
    · rw [i32_lt, sm, e20] at d2
      rw [hu_B, hu_GI]
      refine num4 rn1 d ?_
      rintro v s2 w t2 ⟨rn2, nn2, nb2, ew, -, -, eat, -⟩
      have f32 : gI t2 3 0 = 0 := rn2.2.2.2.2.2
      have rc2 := rc1.nu nn2 nb2
      obtain ⟨d1, d22, d3, d4, d5⟩ := id rc2
      have k2 : gI s2 12939 0 = gI s1 12939 0 := nn2.1 _ _ (by unfold chX; decide)
      have c2' : gI s2 12938 0 = gI s1 12938 0 := nn2.1 _ _ (by unfold chX; decide)
      have sm2 : (gI t2 25 0 + gI t2 26 0).toInt = rC s1 + rK s1 := by rw [← d1, ← d22, k2, c2']; exact sm
      have p2 : gI t2 26 0 = gI s1 12939 0 := by rw [← d22, k2]
      refine r_GI (r_ct f32 (r_GI (r_GI (r_cf (fun z => by rw [z, e20] at sm2; omega) ?_))))
      unfold M_Mo_proto_j365
      refine r_GI (r_ct f32 (r_GI (r_SI fun _ => r_GI (r_PI (r_SI fun _ => ?_)))))
      rw [ew, hu_B, hu_SI]
      intro _
      rw [hu_B, hu_GI, hu_B, hu_PI, hu_R, hu_R]
      show QQ (Sum.inl (p, Int32.ofNat i + 1)) (sI (sA s2 104 0 (gI s1 12939 0) v) 12939 0 (gI s2 12939 0 + 1)) (Sum.inl (l2, p, n, Int32.ofNat i + 1)) (sA (sI (sA t2 55 0 (gI t2 26 0) v) 26 0 (gI t2 26 0 + 1)) 56 0 (gI t2 26 0) (gI t1 28 0))
      rw [p2, k2, ← h1]
      have kk : (gI s1 12939 0 + 1).toInt = rK s1 + 1 := by rw [ktI_add, e1]; rw [e1]; omega
      generalize eX : gI s1 12939 0 = X at *
      have eXi : X.toInt = rK s1 := by rw [← eX]
      have K : ∀ S T : S1, Rn5 S T → (∀ f j, f ≠ 12939 → gI S f j = gI s2 f j) → gI S 12939 0 = X + 1 → (∀ a k j, gA S a k j = if a = 104 ∧ k = 0 ∧ j = X then v else gA s2 a k j) → (∀ f j, f ≠ 26 → gI T f j = gI t2 f j) → gI T 26 0 = X + 1 → (∀ a k j, gA T a k j = if a = 56 ∧ k = 0 ∧ j = X then gI s1 12942 0 else if a = 55 ∧ k = 0 ∧ j = X then v else gA t2 a k j) → QQ (Sum.inl (p, Int32.ofNat i + 1)) S (Sum.inl (l2, p, n, Int32.ofNat i + 1)) T := by
        intro S T q1 q2 q3 q4 q5 q6 q7
        have rkS : rK S = rK s1 + 1 := by
          show (gI S 12939 0).toInt = _
          rw [q3, kk]
        refine qi _ _ _ _ ⟨i + 1, by rw [ofN1], by rw [ofN1], by omega, q1, ?_, ?_, ?_, by omega, ?_, ?_⟩
        · unfold Rc rC rK
          rw [q2 12938 0 (by decide), q5 25 0 (by decide), q3, q6, d1, kk]
          have : (gI t2 25 0).toInt = rC s1 := by rw [← d1, c2']
          exact ⟨rfl, rfl, by omega, by omega, by omega⟩
        · refine cc1.trans (nn2.cc.trans ⟨fun f j x y => q2 f j y, fun a k j x => by rw [q4, if_neg (fun z => x z.1)], fun j x => by rw [q4, if_neg (fun z => by rw [z.2.2] at x; omega)]⟩)
        · refine ct1.trans (nb2.ctt.trans ⟨fun f j _ _ _ _ y => q5 f j y, fun a k j x y => by rw [q7, if_neg (fun z => y z.1), if_neg (fun z => x z.1)], fun j x => ⟨?_, ?_⟩⟩)
          · rw [q7, if_neg (fun z => absurd z.1 (by decide)), if_neg (fun z => by rw [z.2.2] at x; omega)]
          · rw [q7, if_neg (fun z => by rw [z.2.2] at x; omega), if_neg (fun z => absurd z.1 (by decide))]
        · show (gI S 12942 0).toInt = _
          rw [q2 12942 0 (by decide), eat, ea]
          omega
        · refine ⟨fun j j0 j1 => ?_, fun j j0 j1 => ?_⟩
          · rw [q4, q7, if_neg (c := (55 : Nat) = 56 ∧ _) (fun z => absurd z.1 (by decide))]
            by_cases ej : j = X
            · rw [if_pos ⟨rfl, rfl, ej⟩, if_pos ⟨rfl, rfl, ej⟩]
            · rw [if_neg (fun z => ej z.2.2), if_neg (fun z => ej z.2.2), nn2.A, nb2.2.2.1]
              refine wc1.1 j j0 ?_
              have : j.toInt ≠ X.toInt := fun z => ej (toInt_inj z)
              omega
          · rw [q7]
            by_cases ej : j = X
            · rw [if_pos ⟨rfl, rfl, ej⟩, ej]
              show rAt s1 = _
              omega
            · rw [if_neg (fun z => ej z.2.2), if_neg (fun z => absurd z.1 (by decide)), nb2.2.2.1]
              refine wc1.2 j j0 ?_
              have : j.toInt ≠ X.toInt := fun z => ej (toInt_inj z)
              omega
      refine K _ _ (Rn5.tA (Rn5.wt (Rn5.tA (Rn5.ws (Rn5.wA rn2 (by decide)) (by decide)) (by decide)) (by decide)) (by decide)) (fun f j z => ?_) ?_ (fun a k j => ?_) (fun f j z => ?_) ?_ (fun a k j => ?_)
      · rw [gI_sI, if_neg (fun y => z y.1)]
        rfl
      · rw [gI_sI, if_pos ⟨rfl, rfl⟩]
      · show gA (sA s2 104 0 X v) a k j = _
        rw [gA_sA]
      · show gI (sI (sA t2 55 0 X v) 26 0 (X + 1)) f j = _
        rw [gI_sI, if_neg (fun y => z y.1)]
        rfl
      · show gI (sI (sA t2 55 0 X v) 26 0 (X + 1)) 26 0 = _
        rw [gI_sI, if_pos ⟨rfl, rfl⟩]
      · rw [gA_sA]
        split
        · rfl
        · show gA (sA t2 55 0 X v) a k j = _
          rw [gA_sA]
    · -- too many parts
      rw [i32_lt, sm, e20] at d2
      intro r s' E
      have E : oR (Sum.inr (Sum.inr (Sum.inl ())) : (Int32 × Int32) ⊕ Unit ⊕ Unit ⊕ Unit) s1 = some (r, s') := E
      cases E
      rw [hu_B]
      intro w t2 E2
      have hk : 0 ≤ (4 : Int32).toInt ∧ (4 : Int32).toInt ≤ 4 := by decide
      have b : t2 = sI (sI t1 29 0 (gI t1 28 0)) 28 0 (gI t1 28 0 + 4) := by
        have z : hu (M_Mo_number 4) t1 (fun _ t' => t' = sI (sI t1 29 0 (gI t1 28 0)) 28 0 (gI t1 28 0 + 4)) := by
          have es : (gI t1 1 0 - gI t1 28 0).toInt = rLn s1 - rAt s1 := by
            rw [← h1, ← h2, ktI_sub]
            show -2147483648 ≤ rLn s1 - rAt s1 ∧ rLn s1 - rAt s1 < 2147483648
            omega
          unfold M_Mo_number
          simp only [hu_B, hu_C, hu_R, hu_GI, hu_PI]
          refine ⟨fun _ => ⟨fun _ => hu_mono (rnumL (by decide)) (fun _ _ q => q), fun n => absurd ?_ n⟩, fun n => absurd f3 n⟩
          show (4 : Int32) ≤ gI t1 1 0 - gI t1 28 0
          rw [i32_le, es, e4]
          omega
        exact z w t2 E2
      have J : ∀ g j, g ≠ 28 → g ≠ 29 → gI t2 g j = gI t1 g j := fun g j z w => by rw [b, gI_sI, if_neg (fun y => z y.1), gI_sI, if_neg (fun y => w y.1)]
      have f32 : gI t2 3 0 = 0 := (J _ _ (by decide) (by decide)).trans f3
      have sm2 : (gI t2 25 0 + gI t2 26 0).toInt = rC s1 + rK s1 := by rw [J _ _ (by decide) (by decide), J _ _ (by decide) (by decide), ← c1, ← c2]; exact sm
      have e20' : gI t2 25 0 + gI t2 26 0 = 20000 := toInt_inj (by rw [sm2, e20]; omega)
      rw [hu_B, hu_GI, hu_C]
      refine ⟨fun _ => ?_, fun n => absurd f32 n⟩
      rw [hu_B, hu_GI, hu_B, hu_GI, hu_C]
      refine ⟨fun _ => ?_, fun n => absurd e20' n⟩
      have g : hu (oR ()) s1 (fun (_ : Unit) (_ : S1) => hu (oB (M_Mo_bad 4 (gI t1 28 0)) fun _ => M_Mo_proto_j365 rec l2 p n (Int32.ofNat i) (gI t1 28 0) w.toInt32) t2 (QQ (Sum.inr (Sum.inr (Sum.inl ()))) s1)) := by
        refine r_bad (Q := fun _ _ => QQ (Sum.inr (Sum.inr (Sum.inl ()))) s1) f32 (r_endf (sf := rfz s1 4 0) ?_ (by repeat' with_reducible (first | apply skk_B | apply skk_C | apply skk_L | exact skk_R _ | exact skk_GI _ _ | exact skk_AI _ _ _ _ | exact skk_SI | exact skk_SL | exact skk_K _ | exact skk_PI (by decide) | exact skk_Mo_number _ | exact skk_Mo_need _ | exact skk_Mo_bad _ _ | exact skk_Mo_upvalue_j76 _ _ | exact skk_Mo_upvalue_j73 _ _ _ | exact skk_Mo_upvalue_j65 _ _ _ _ | exact skk_Mo_upvalue_j22 _ _ _ | exact skk_Mo_upvalue_j25 _ _ | exact skk_Mo_upvalue _ | exact skk_Va_set _ _ _ _ _ | exact skk_Mo_readConstants_j213 _ _ | exact skk_Mo_readConstants_j184 _ _ _ _ | exact skk_Mo_readConstants_j173 _ _ _ _ _ | exact skk_Mo_readConstants_j110 _ _ _ _ | exact skk_Mo_readConstants_j90 _ _ _ _ | exact skk_Mo_readConstants_j78 _ _ _ | exact skk_Mo_readConstants_L26 _ | exact skk_Mo_readConstants _ | exact skk_Mo_proto_L237 hr _ | exact skk_Mo_proto_j365 hr _ _ _ _ _ _ | exact skk_Mo_proto_L307 hr _ | exact skk_Mo_proto_L458 hr _ | exact skk_Mo_proto_j410 hr _ _ | exact skk_Mo_proto_j283 hr _ _ _ _ | exact skk_Mo_proto_j213 hr _ _ _ _ | exact hr _ _ | apply skk_W | apply skk_E | intro _)) (qe _ _ _ (fun _ _ q => q)))
        unfold rfz
        rw [sub05, h1]
        exact ff_set (by decide)
      exact g () s1 rfl
  · -- the tape is too short
    rw [i32_le, ea] at d
    have d : ¬ rAt s1 + 4 ≤ rLn s1 := d
    intro r s' E
    have E : oR (Sum.inr (Sum.inl ()) : (Int32 × Int32) ⊕ Unit ⊕ Unit ⊕ Unit) s1 = some (r, s') := E
    cases E
    have es : (gI t1 1 0 - gI t1 28 0).toInt = rLn s1 - rAt s1 := by
      rw [← h1, ← h2, ktI_sub]
      show -2147483648 ≤ rLn s1 - rAt s1 ∧ rLn s1 - rAt s1 < 2147483648
      omega
    rw [hu_B]
    intro w t2 E2
    have b : t2 = sI (sI (sI t1 29 0 (gI t1 28 0)) 3 0 1) 4 0 (gI t1 28 0) := by
      have z : hu (M_Mo_number 4) t1 (fun _ t' => t' = sI (sI (sI t1 29 0 (gI t1 28 0)) 3 0 1) 4 0 (gI t1 28 0)) := by
        unfold M_Mo_number M_Mo_bad
        simp only [hu_B, hu_C, hu_R, hu_GI, hu_PI]
        refine ⟨fun _ => ⟨fun n => ?_, fun _ => ⟨fun _ => rfl, fun n => absurd ?_ n⟩⟩, fun n => absurd f3 n⟩
        · have n : (4 : Int32) ≤ gI t1 1 0 - gI t1 28 0 := n
          rw [i32_le, es, e4] at n
          omega
        · rw [gI_sI, if_neg (fun z => absurd z.1 (by decide))]
          exact f3
      exact z w t2 E2
    have hf : Ff (rfz s1 1 0) t2 := by
      unfold rfz
      rw [sub05, h1, b]
      exact ff_set (by decide)
    have sk : Skk (oB (oGI 3 0) fun v336 => oC (v336 = 0) (oB (oGI 25 0) fun v343 => oB (oGI 26 0) fun v347 => oC ((v343 + v347) = 20000) (oB (M_Mo_bad 4 (gI t1 28 0)) fun v361 => M_Mo_proto_j365 rec l2 p n (Int32.ofNat i) (gI t1 28 0) w.toInt32) (M_Mo_proto_j365 rec l2 p n (Int32.ofNat i) (gI t1 28 0) w.toInt32)) (M_Mo_proto_j365 rec l2 p n (Int32.ofNat i) (gI t1 28 0) w.toInt32)) := (by repeat' with_reducible (first | apply skk_B | apply skk_C | apply skk_L | exact skk_R _ | exact skk_GI _ _ | exact skk_AI _ _ _ _ | exact skk_SI | exact skk_SL | exact skk_K _ | exact skk_PI (by decide) | exact skk_Mo_number _ | exact skk_Mo_need _ | exact skk_Mo_bad _ _ | exact skk_Mo_upvalue_j76 _ _ | exact skk_Mo_upvalue_j73 _ _ _ | exact skk_Mo_upvalue_j65 _ _ _ _ | exact skk_Mo_upvalue_j22 _ _ _ | exact skk_Mo_upvalue_j25 _ _ | exact skk_Mo_upvalue _ | exact skk_Va_set _ _ _ _ _ | exact skk_Mo_readConstants_j213 _ _ | exact skk_Mo_readConstants_j184 _ _ _ _ | exact skk_Mo_readConstants_j173 _ _ _ _ _ | exact skk_Mo_readConstants_j110 _ _ _ _ | exact skk_Mo_readConstants_j90 _ _ _ _ | exact skk_Mo_readConstants_j78 _ _ _ | exact skk_Mo_readConstants_L26 _ | exact skk_Mo_readConstants _ | exact skk_Mo_proto_L237 hr _ | exact skk_Mo_proto_j365 hr _ _ _ _ _ _ | exact skk_Mo_proto_L307 hr _ | exact skk_Mo_proto_L458 hr _ | exact skk_Mo_proto_j410 hr _ _ | exact skk_Mo_proto_j283 hr _ _ _ _ | exact skk_Mo_proto_j213 hr _ _ _ _ | exact hr _ _ | apply skk_W | apply skk_E | intro _))
    intro a t3 E3
    exact qe (Sum.inl ()) s1 (rfz s1 1 0) (fun _ _ q => q) a t3 (hf.sk (sk t2 a t3 E3))
