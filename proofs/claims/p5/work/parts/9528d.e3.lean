/-! Both readings: rules for the pair, heads. -/
section RP
variable {β γ : Type} {f : M β} {s t : S1} {Q : β → S1 → γ → S1 → Prop}
theorem r_GI {g : Nat} {i : Int32} {R : Int32 → M γ} (k : hu f s (fun r s2 => hu (R (gI t g i)) t (Q r s2))) : hu f s (fun r s2 => hu (oB (oGI g i) R) t (Q r s2)) := fun r s2 E => by
  show hu _ _ (Q r s2)
  rw [hu_B, hu_GI]
  exact k r s2 E
theorem r_PI {g : Nat} {i x : Int32} {R : Unit → M γ} (k : hu f s (fun r s2 => hu (R ()) (sI t g i x) (Q r s2))) : hu f s (fun r s2 => hu (oB (oPI g i x) R) t (Q r s2)) := fun r s2 E => by
  show hu _ _ (Q r s2)
  rw [hu_B, hu_PI]
  exact k r s2 E
theorem r_SI {a : Nat} {n i j x : Int32} {R : Unit → M γ} (k : (0 ≤ j ∧ j < n) → hu f s (fun r s2 => hu (R ()) (sA t a i j x) (Q r s2))) : hu f s (fun r s2 => hu (oB (oSI a n i j x) R) t (Q r s2)) := fun r s2 E => by
  show hu _ _ (Q r s2)
  rw [hu_B, hu_SI]
  exact fun c => k c r s2 E
theorem r_AI {a : Nat} {n i j : Int32} {R : Int32 → M γ} (k : (0 ≤ j ∧ j < n) → hu f s (fun r s2 => hu (R (gA t a i j)) t (Q r s2))) : hu f s (fun r s2 => hu (oB (oAI a n i j) R) t (Q r s2)) := fun r s2 E => by
  show hu _ _ (Q r s2)
  rw [hu_B, hu_AI]
  exact fun c => k c r s2 E
theorem r_C {c : Prop} [Decidable c] {A B : M γ} (k1 : c → hu f s (fun r s2 => hu A t (Q r s2))) (k2 : ¬ c → hu f s (fun r s2 => hu B t (Q r s2))) : hu f s (fun r s2 => hu (oC c A B) t (Q r s2)) := fun r s2 E => by
  show hu _ _ (Q r s2)
  rw [hu_C]
  exact ⟨fun c => k1 c r s2 E, fun c => k2 c r s2 E⟩
theorem r_ct {c : Prop} [Decidable c] {A B : M γ} (h : c) (k1 : hu f s (fun r s2 => hu A t (Q r s2))) : hu f s (fun r s2 => hu (oC c A B) t (Q r s2)) := r_C (fun _ => k1) (fun n => absurd h n)
theorem r_cf {c : Prop} [Decidable c] {A B : M γ} (h : ¬ c) (k1 : hu f s (fun r s2 => hu B t (Q r s2))) : hu f s (fun r s2 => hu (oC c A B) t (Q r s2)) := r_C (fun n => absurd n h) (fun _ => k1)
/-- a need that holds -/
theorem r_need1 {R : Unit → M γ} (k : hu f s (fun r s2 => hu (R ()) t (Q r s2))) : hu f s (fun r s2 => hu (oB (M_Mo_need 1) R) t (Q r s2)) := fun r s2 E => by
  show hu _ _ (Q r s2)
  rw [hu_B]
  unfold M_Mo_need
  rw [hu_C]
  exact ⟨fun c => absurd c (by decide), fun _ => (hu_R _ _ _).2 (k r s2 E)⟩
/-- a need that fails, where no fault is told yet -/
theorem r_need0 {R : Unit → M γ} (h3 : gI t 3 0 = 0) (k : hu f s (fun r s2 => hu (R ()) (sI (sI t 3 0 2) 4 0 (gI t 29 0)) (Q r s2))) : hu f s (fun r s2 => hu (oB (M_Mo_need 0) R) t (Q r s2)) := fun r s2 E => by
  show hu _ _ (Q r s2)
  rw [hu_B]
  unfold M_Mo_need M_Mo_bad
  simp only [hu_B, hu_C, hu_R, hu_GI, hu_PI]
  exact ⟨fun _ => ⟨fun _ => k r s2 E, fun n => absurd h3 n⟩, fun n => absurd trivial n⟩
theorem r_bad {R : Int32 → M γ} {a b : Int32} (h3 : gI t 3 0 = 0) (k : hu f s (fun r s2 => hu (R 0) (sI (sI t 3 0 a) 4 0 b) (Q r s2))) : hu f s (fun r s2 => hu (oB (M_Mo_bad a b) R) t (Q r s2)) := fun r s2 E => by
  show hu _ _ (Q r s2)
  rw [hu_B]
  unfold M_Mo_bad
  simp only [hu_B, hu_C, hu_R, hu_GI, hu_PI]
  exact ⟨fun _ => k r s2 E, fun n => absurd h3 n⟩
/-- the class has ended with a fault that the reference has told too -/
theorem r_end {v : β} {R : M γ} (hf : Ff s t) (sk : Skk R) (h : ∀ a t2, Ff s t2 → Q v s a t2) : hu (oR v) s (fun r s2 => hu R t (Q r s2)) := by
  rw [hu_R]
  intro a t2 E
  exact h a t2 (hf.sk (sk t a t2 E))
end RP
/-- what is left behind a number that was read -/
def nuP5 (s t : S1) (k v : Int32) (s' : S1) (w : Int64) (t' : S1) : Prop := Rn5 s' t' ∧ Nn s s' ∧ Nb t t' ∧ w.toInt32 = v ∧ (k = 1 → 0 ≤ v.toInt ∧ v.toInt ≤ 255) ∧ (k = 2 → 0 ≤ v.toInt ∧ v.toInt ≤ 65535) ∧ gI s' 12942 0 = gI s 12942 0 + k ∧ gI t' 29 0 = gI s 12942 0
theorem nuG.p {s t : S1} {k v : Int32} {s' : S1} {w : Int64} {t' : S1} (h : Rn5 s t) (hk : 0 ≤ k.toInt ∧ k.toInt ≤ 4) (q : nuG s t k v s' w t') : nuP5 s t k v s' w t' := by
  obtain ⟨h1, h2, ⟨a1, a2, a3⟩, tp, h5, h6⟩ := h
  obtain ⟨l, ew, es, et, v1, v2⟩ := q
  have ra : (gI s 12942 0).toInt = rAt s := rfl
  have I : ∀ f i, f ≠ 12942 → gI s' f i = gI s f i := fun f i z => by rw [es, gI_sI, if_neg (fun y => z y.1)]
  have J : ∀ f i, f ≠ 28 → f ≠ 29 → gI t' f i = gI t f i := fun f i z y => by rw [et, gI_sI, if_neg (fun x => z x.1), gI_sI, if_neg (fun x => y x.1)]
  have i2 : gI s' 12942 0 = gI s 12942 0 + k := by rw [es, gI_sI, if_pos ⟨rfl, rfl⟩]
  have j8 : gI t' 28 0 = gI t 28 0 + k := by rw [et, gI_sI, if_pos ⟨rfl, rfl⟩]
  have ea : rAt s' = rAt s + k.toInt := by
    show (gI s' 12942 0).toInt = _
    rw [i2, ktI_add]
    omega
  have el : rLn s' = rLn s := by
    show (gI s' 12941 0).toInt = _
    rw [I _ _ (by decide)]
  refine ⟨⟨by rw [i2, j8, h1], by rw [I _ _ (by decide), J _ _ (by decide) (by decide), h2], ⟨by omega, by omega, by omega⟩, fun j j0 j1 => ?_, ⟨by rw [I _ _ (by decide)]; exact h5.1, by rw [I _ _ (by decide), J _ _ (by decide) (by decide)]; exact h5.2⟩, by rw [J _ _ (by decide) (by decide)]; exact h6⟩, ⟨fun f j z => I f j (fun y => z (.inl y)), by rw [es]; rfl⟩, ⟨fun f i _ _ y z => J f i y z, fun _ _ => by rw [et]; rfl, fun _ _ _ => by rw [et]; rfl, fun _ _ _ => by rw [et]; rfl, fun _ => h6⟩, ew, v1, v2, i2, ?_⟩
  · rw [es, et]
    rw [el] at j1
    exact tp j j0 j1
  · rw [et, gI_sI, if_neg (fun z => absurd z.1 (by decide)), gI_sI, if_pos ⟨rfl, rfl⟩, h1]
section NC
variable {β γ : Type} {s t : S1} {k : Int32} {C : Int32 → M β} {R : Int64 → M γ} {Q : β → S1 → γ → S1 → Prop}
/-- a number in both -/
theorem numC (hk : 0 ≤ k.toInt ∧ k.toInt ≤ 4) (h : Rn5 s t) (good : ∀ v s' w t', nuP5 s t k v s' w t' → hu (C v) s' (fun r s2 => hu (R w) t' (Q r s2))) (bad : ∀ s' t', Ff s' t' → Nn s s' → hu (C (-1)) s' (fun r s2 => hu (R 0) t' (Q r s2))) :
    hu (oB (M_Ch_readNumber k) C) s (fun r s2 => hu (oB (M_Mo_number k) R) t (Q r s2)) := by
  rw [hu_B]
  intro v s' E r s2 E2
  rw [hu_B]
  intro w t' E3
  rcases num2 hk h v s' E w t' E3 with q | q
  · exact good v s' w t' (nuG.p h hk q) r s2 E2
  · obtain ⟨-, rfl, rfl, es, et⟩ := q
    refine bad s' t' ⟨?_, ?_, ?_⟩ ⟨fun f j z => ?_, by rw [es]; rfl⟩ r s2 E2
    · rw [et, gI_sI, if_neg (fun z => absurd z.1 (by decide)), gI_sI, if_pos ⟨rfl, rfl⟩]
      decide
    · rw [es, et, gI_sI, if_neg (fun z => absurd z.1 (by decide)), gI_sI, if_pos ⟨rfl, rfl⟩, gI_sI, if_neg (fun z => absurd z.1 (by decide)), gI_sI, if_pos ⟨rfl, rfl⟩]
    · rw [es, et, gI_sI, if_pos ⟨rfl, rfl⟩, gI_sI, if_pos ⟨rfl, rfl⟩]
      exact h.1
    · rw [es, gI_sI, if_neg (fun y => z (.inr (.inr y.1))), gI_sI, if_neg (fun y => z (.inr (.inl y.1)))]
end NC
theorem Rn5.ws {s t : S1} {f : Nat} {i x : Int32} (h : Rn5 s t) (hf : f < 12941 ∨ 12944 < f) : Rn5 (sI s f i x) t := by
  obtain ⟨h1, h2, ⟨a1, a2, a3⟩, tp, h5, h6⟩ := h
  have I : ∀ g j, 12941 ≤ g ∧ g ≤ 12944 → gI (sI s f i x) g j = gI s g j := fun g j z => by rw [gI_sI, if_neg (fun y => by omega)]
  refine ⟨by rw [I _ _ (by decide)]; exact h1, by rw [I _ _ (by decide)]; exact h2, ?_, fun j j0 j1 => ?_, ⟨by rw [I _ _ (by decide)]; exact h5.1, by rw [I _ _ (by decide)]; exact h5.2⟩, h6⟩
  · unfold Ar rAt rLn
    rw [I _ _ (by decide), I _ _ (by decide)]
    exact ⟨a1, a2, a3⟩
  · unfold rLn at j1
    rw [I _ _ (by decide)] at j1
    exact tp j j0 j1
theorem Rn5.wA {s t : S1} {a : Nat} {i j x : Int32} (h : Rn5 s t) (ha : a ≠ 108) : Rn5 (sA s a i j x) t := by
  obtain ⟨h1, h2, h3, tp, h5, h6⟩ := h
  exact ⟨h1, h2, h3, fun k k0 k1 => by rw [gA_sA, if_neg (fun y => ha y.1.symm)]; exact tp k k0 k1, h5, h6⟩
theorem Rn5.wB {s t : S1} {a : Nat} {i j : Int32} {x : Int64} (h : Rn5 s t) : Rn5 (sB s a i j x) t := h
theorem Rn5.wt {s t : S1} {f : Nat} {i x : Int32} (h : Rn5 s t) (hf : f ≠ 1 ∧ f ≠ 3 ∧ f ≠ 28 ∧ f ≠ 4) : Rn5 s (sI t f i x) := by
  obtain ⟨h1, h2, h3, tp, h5, h6⟩ := h
  exact ⟨by rw [gI_sI, if_neg (fun y => hf.2.2.1 y.1.symm)]; exact h1, by rw [gI_sI, if_neg (fun y => hf.1 y.1.symm)]; exact h2, h3, tp, ⟨h5.1, by rw [gI_sI, if_neg (fun y => hf.2.2.2 y.1.symm)]; exact h5.2⟩, by rw [gI_sI, if_neg (fun y => hf.2.1 y.1.symm)]; exact h6⟩
theorem Rn5.tA {s t : S1} {a : Nat} {i j x : Int32} (h : Rn5 s t) (ha : a ≠ 41) : Rn5 s (sA t a i j x) := by
  obtain ⟨h1, h2, h3, tp, h5, h6⟩ := h
  exact ⟨h1, h2, h3, fun k k0 k1 => by rw [gA_sA, if_neg (fun y => ha y.1.symm)]; exact tp k k0 k1, h5, h6⟩
theorem Rn5.tB {s t : S1} {a : Nat} {i j : Int32} {x : Int64} (h : Rn5 s t) : Rn5 s (sB t a i j x) := h
theorem Ff.ws {s t : S1} {f : Nat} {i x : Int32} (h : Ff s t) (hf : f ≠ 12943 ∧ f ≠ 12944) : Ff (sI s f i x) t := by
  obtain ⟨h1, h2, h3⟩ := h
  exact ⟨h1, by rw [gI_sI, if_neg (fun y => hf.1 y.1.symm)]; exact h2, by rw [gI_sI, if_neg (fun y => hf.2 y.1.symm)]; exact h3⟩
/-- the class refuses, and the reference tells the same -/
theorem ff_set {s t : S1} {a b : Int32} (ha : a ≠ 0) : Ff (sI (sI s 12943 0 a) 12944 0 b) (sI (sI t 3 0 a) 4 0 b) := by
  refine ⟨?_, ?_, ?_⟩
  · rw [gI_sI, if_neg (fun z => absurd z.1 (by decide)), gI_sI, if_pos ⟨rfl, rfl⟩]
    exact ha
  · rw [gI_sI, if_neg (fun z => absurd z.1 (by decide)), gI_sI, if_pos ⟨rfl, rfl⟩, gI_sI, if_neg (fun z => absurd z.1 (by decide)), gI_sI, if_pos ⟨rfl, rfl⟩]
  · rw [gI_sI, if_pos ⟨rfl, rfl⟩, gI_sI, if_pos ⟨rfl, rfl⟩]
/-- the class's own writes while the head of prototype p is read -/
def Hc (p : Int32) (s s' : S1) : Prop := (∀ f j, ¬ chX f → ¬ (18432 ≤ f ∧ f ≤ 18435 ∧ j = p) → gI s' f j = gI s f j) ∧ s'.2 = s.2
def Hr (p : Int32) (t t' : S1) : Prop := (∀ f i, f ≠ 3 → f ≠ 4 → f ≠ 28 → f ≠ 29 → gI t' f i = gI t f i) ∧ (∀ a i j, ¬ (42 ≤ a ∧ a ≤ 45 ∧ j = p) → gA t' a i j = gA t a i j)
theorem Hc.trans {p : Int32} {s u v : S1} (a : Hc p s u) (b : Hc p u v) : Hc p s v := ⟨fun f j x y => (b.1 f j x y).trans (a.1 f j x y), b.2.trans a.2⟩
theorem Hr.trans {p : Int32} {s u v : S1} (a : Hr p s u) (b : Hr p u v) : Hr p s v := ⟨fun f i x y z w => (b.1 f i x y z w).trans (a.1 f i x y z w), fun c i j x => (b.2 c i j x).trans (a.2 c i j x)⟩
theorem Nn.hc {p : Int32} {s u : S1} (h : Nn s u) : Hc p s u := ⟨fun f j x _ => h.1 f j x, h.2⟩
theorem Nb.hr {p : Int32} {s u : S1} (h : Nb s u) : Hr p s u := ⟨h.1, fun a i j _ => h.2.2.1 a i j⟩
theorem hc_w (s : S1) (p : Int32) {f : Nat} (x : Int32) (hf : 18432 ≤ f ∧ f ≤ 18435) : Hc p s (sI s f p x) := ⟨fun g j _ y => by rw [gI_sI, if_neg (fun z => y ⟨by omega, by omega, z.2⟩)], rfl⟩
theorem hr_w (t : S1) (p : Int32) {a : Nat} (i x : Int32) (ha : 42 ≤ a ∧ a ≤ 45) : Hr p t (sA t a i p x) := ⟨fun _ _ _ _ _ _ => rfl, fun b k j y => by rw [gA_sA, if_neg (fun z => y ⟨by omega, by omega, z.2.2⟩)]⟩
/-- the reference's text of a head, and of what comes behind it -/
def rQ (rec : Int32 → Int32 → M (Unit)) (l2 l3 : Int32) : M (Unit) :=
  oB (M_Mo_number 2) fun v266 =>
  oC (v266.toInt32 ≤ 0)
    (M_Mo_proto_j283 rec l2 l3 v266.toInt32 0)
    (M_Mo_proto_j283 rec l2 l3 v266.toInt32 1)
def rUp5 (rec : Int32 → Int32 → M (Unit)) (l1 l2 l3 : Int32) : M (Unit) :=
  oB (oGI 24 0) fun v230 =>
  oB (oSI 46 251 0 l3 v230) fun _ =>
  oB (oW (M_Mo_proto_L237 rec) (l1, l2, l3, 0)) fun e237 =>
  oB (M_Mo_readConstants e237.2) fun _ =>
  rQ rec e237.1 e237.2
def rH (rec : Int32 → Int32 → M (Unit)) (l1 l2 p : Int32) : M (Unit) :=
  oB (M_Mo_number 1) fun v54 =>
  oB (oSI 42 251 0 p v54.toInt32) fun _ =>
  oB (M_Mo_number 1) fun v66 =>
  oB (oSI 43 251 0 p v66.toInt32) fun _ =>
  oB (oAI 43 251 0 p) fun v77 =>
  oC (2 ≤ v77)
    (M_Mo_proto_j100 rec l1 l2 p)
    (oC (0 ≤ l1)
      (M_Mo_proto_j96 rec l1 l2 p)
      (oB (oAI 43 251 0 p) fun v91 =>
      oC (v91 = 1)
        (M_Mo_proto_j96 rec l1 l2 p)
        (M_Mo_proto_j100 rec l1 l2 p)))
def hdP (s t : S1) (p : Int32) (s' t' : S1) : Prop := Rn5 s' t' ∧ Hc p s s' ∧ Hr p t t' ∧ gI s' 18434 p = gA t' 44 0 p ∧ gI s' 18435 p = gA t' 45 0 p ∧ 0 ≤ (gI s' 18435 p).toInt
def hdG (rec : Int32 → Int32 → M (Unit)) (s t : S1) (l1 l2 p : Int32) (Q : S1 → Prop) (v : Int32) (s' : S1) : Prop := (v = 0 → ∀ t', Ff s' t' → Q t') ∧ (v ≠ 0 → ∀ t', hdP s t p s' t' → hu (rUp5 rec l1 l2 p) t' (fun _ t2 => Q t2))
theorem nn0 {v : Int32} (h : 0 ≤ v.toInt) : (0 : Int32) ≤ v := by
  rw [i32_le]
  exact h
theorem c_ref {s : S1} {a b : Int32} {P : Int32 → S1 → Prop} (k : hu (oR (0 : Int32)) (sI (sI s 12943 0 a) 12944 0 b) P) : hu (oB (M_Ch_refuse a b) fun v => oB (oK (v = 0 ∨ v = 1)) fun _ => oR v) s P := by
  unfold M_Ch_refuse
  simp only [hu_B, hu_PI, hu_R, hu_K] at k ⊢
  exact fun _ => k
/-- the class refuses with 2 at the number's place, and a need fails -/
theorem leaf2 {γ : Type} {s t : S1} {k : Int32} {Q : Int32 → S1 → γ → S1 → Prop} {R : Unit → M γ} (h3 : gI t 3 0 = 0) (pl : gI s 12942 0 - k = gI t 29 0) (sk : Skk (R ())) (hg : ∀ s' a t2, Ff s' t2 → Q 0 s' a t2) :
    hu (oB (oGI 12942 0) fun v => oB (M_Ch_refuse 2 (v - k)) fun v => oB (oK (v = 0 ∨ v = 1)) fun _ => oR v) s (fun r s2 => hu (oB (M_Mo_need 0) R) t (Q r s2)) := by
  rw [hu_B, hu_GI]
  refine c_ref (r_need0 h3 (r_end ?_ sk (hg _)))
  rw [pl]
  exact ff_set (by decide)
theorem head2 {rec : Int32 → Int32 → M (Unit)} (hr : ∀ a b, Skk (rec a b)) {s t : S1} {l1 l2 p : Int32} {Q : S1 → Prop} (h : Rn5 s t) (ha : gI s 18444 p = l1) : hu (M_Ch_readHead p) s (fun v s' => hu (rH rec l1 l2 p) t (fun _ t2 => hdG rec s t l1 l2 p Q v s' → Q t2)) := by
  have e0 : (0 : Int32).toInt = 0 := rfl
  have e1 : (1 : Int32).toInt = 1 := rfl
  have e2 : (2 : Int32).toInt = 2 := rfl
  have e60 : (60 : Int32).toInt = 60 := rfl
  have e250 : (250 : Int32).toInt = 250 := rfl
  have e251 : (251 : Int32).toInt = 251 := rfl
  have g0 : ∀ s' (a : Unit) t2, Ff s' t2 → hdG rec s t l1 l2 p Q 0 s' → Q t2 := fun s' _ t2 f g => g.1 rfl t2 f
  have k100 : ∀ b, Skk (M_Mo_proto_j101 rec l1 l2 p b) := fun b => skk_Mo_proto_j101 hr _ _ _ _
  have k159 : ∀ b, Skk (M_Mo_proto_j159 rec l1 l2 p b) := fun b => skk_Mo_proto_j159 hr _ _ _ _
  -- the last number: the upvalues
  have four : ∀ (k0 : Int32) (s3 t3 : S1), (k0 = 0 ∧ 0 ≤ l1 ∨ k0 = 1 ∧ ¬ 0 ≤ l1) → Rn5 s3 t3 → Hc p s s3 → Hr p t t3 → gI s3 18434 p = gA t3 44 0 p →
      hu (oB (M_Ch_readNumber 1) fun v142 => oB (oPI 18435 p v142) fun _ => oB (oGI 18435 p) fun v149 => oC (0 ≤ v149) (oB (oGI 18435 p) fun v158 => oC (60 < v158) (M_Ch_readHead_j178) (oC (k0 = 0) (oR 1) (oB (oGI 18435 p) fun v171 => oC (v171 = 1) (oR 1) (M_Ch_readHead_j178)))) (oR 0)) s3 (fun v s' => hu (oB (M_Mo_number 1) fun v169 => oB (oSI 45 251 0 p v169.toInt32) fun _ => oC (l1 < 0) (oB (oAI 45 251 0 p) fun v203 => oC (v203 = 1) (M_Mo_proto_j213 rec l1 l2 p 1) (M_Mo_proto_j213 rec l1 l2 p 0)) (oB (oAI 45 251 0 p) fun v184 => oC (60 < v184) (M_Mo_proto_j213 rec l1 l2 p 0) (M_Mo_proto_j213 rec l1 l2 p 1))) t3 (fun _ t2 => hdG rec s t l1 l2 p Q v s' → Q t2)) := by
    intro k0 s3 t3 hk rn3 hc3 hr3 e44
    refine numC (k := 1) (by decide) rn3 ?_ ?_
    · rintro v s4 w t4 ⟨rn4, nn4, nb4, ew, v1, -, ea, e29⟩
      obtain ⟨va, vb⟩ := v1 rfl
      rw [ew]
      refine r_SI fun _ => ?_
      have hc4 : Hc p s (sI s4 18435 p v) := (hc3.trans nn4.hc).trans (hc_w s4 p v (by decide))
      have hr4 : Hr p t (sA t4 45 0 p v) := (hr3.trans nb4.hr).trans (hr_w t4 p 0 v (by decide))
      have rn5 : Rn5 (sI s4 18435 p v) (sA t4 45 0 p v) := (rn4.ws (by decide)).tA (by decide)
      have rv : gI (sI s4 18435 p v) 18435 p = v := by rw [gI_sI, if_pos ⟨rfl, rfl⟩]
      have tv : gA (sA t4 45 0 p v) 45 0 p = v := by rw [gA_sA, if_pos ⟨rfl, rfl, rfl⟩]
      have e44' : gI (sI s4 18435 p v) 18434 p = gA (sA t4 45 0 p v) 44 0 p := by
        rw [gI_sI, if_neg (fun z => absurd z.1 (by decide)), gA_sA, if_neg (fun z => absurd z.1 (by decide)), nn4.1 18434 p (by unfold chX; decide), nb4.2.2.1]
        exact e44
      have pl : gI (sI s4 18435 p v) 12942 0 - 1 = gI (sA t4 45 0 p v) 29 0 := by
        rw [gI_sI, if_neg (fun z => absurd z.1 (by decide)), ea, Int32.add_sub_cancel]
        exact e29.symm
      rw [hu_B, hu_PI]
      generalize sI s4 18435 p v = s5 at *
      generalize sA t4 45 0 p v = t5 at *
      have good : hu (oR (1 : Int32)) s5 (fun v s' => hu (M_Mo_proto_j213 rec l1 l2 p 1) t5 (fun _ t2 => hdG rec s t l1 l2 p Q v s' → Q t2)) := by
        unfold M_Mo_proto_j213
        refine r_need1 (r_GI (r_ct rn5.2.2.2.2.2 ?_))
        rw [hu_R]
        exact fun a t2 E g => g.2 (by decide) t5 ⟨rn5, hc4, hr4, e44', by rw [rv, tv], by rw [rv]; exact va⟩ a t2 E
      have badd : hu M_Ch_readHead_j178 s5 (fun v s' => hu (M_Mo_proto_j213 rec l1 l2 p 0) t5 (fun _ t2 => hdG rec s t l1 l2 p Q v s' → Q t2)) := by
        unfold M_Ch_readHead_j178 M_Mo_proto_j213
        exact leaf2 rn5.2.2.2.2.2 pl (skk_B (skk_GI _ _) fun _ => skk_C (skk_B (skk_GI _ _) fun _ => skk_B skk_SI fun _ => skk_B (skk_W (fun x => skk_Mo_proto_L237 hr x) _) fun _ => skk_B (skk_Mo_readConstants _) fun _ => skk_B (skk_Mo_number _) fun _ => skk_C (skk_Mo_proto_j283 hr _ _ _ _) (skk_Mo_proto_j283 hr _ _ _ _)) (skk_R _)) g0
      rw [hu_B, hu_GI, rv, hu_C]
      refine ⟨fun _ => ?_, fun c => absurd (nn0 va) c⟩
      rw [hu_B, hu_GI, rv, hu_C]
      rcases hk with ⟨hk, hl⟩ | ⟨hk, hl⟩
      · have nl : ¬ l1 < 0 := Int32.not_lt.mpr hl
        refine ⟨fun c => r_cf nl (r_AI fun _ => ?_), fun c => ?_⟩
        · rw [tv]
          exact r_ct c badd
        · rw [hu_C]
          refine ⟨fun _ => r_cf nl (r_AI fun _ => ?_), fun n => absurd hk n⟩
          rw [tv]
          exact r_cf c good
      · have nl : l1 < 0 := Int32.not_le.mp hl
        refine ⟨fun c => r_ct nl (r_AI fun _ => ?_), fun c => ?_⟩
        · rw [tv]
          refine r_cf (fun z => ?_) badd
          rw [i32_lt, e60] at c
          rw [z, e1] at c
          omega
        · rw [hu_C]
          refine ⟨fun z => absurd (hk.symm.trans z) (by decide), fun _ => ?_⟩
          rw [hu_B, hu_GI, rv, hu_C]
          refine ⟨fun z => r_ct nl (r_AI fun _ => ?_), fun z => r_ct nl (r_AI fun _ => ?_)⟩
          · rw [tv]
            exact r_ct z good
          · rw [tv]
            exact r_cf z badd
    · intro s4 t4 hf nn4
      rw [hu_B, hu_PI, hu_B, hu_GI, gI_sI, if_pos ⟨rfl, rfl⟩, hu_C]
      exact ⟨fun c => absurd c (by decide), fun _ => r_end (hf.ws (by decide)) (skk_B skk_SI fun _ => skk_C (skk_B (skk_AI _ _ _ _) fun _ => skk_C (skk_Mo_proto_j213 hr _ _ _ _) (skk_Mo_proto_j213 hr _ _ _ _)) (skk_B (skk_AI _ _ _ _) fun _ => skk_C (skk_Mo_proto_j213 hr _ _ _ _) (skk_Mo_proto_j213 hr _ _ _ _))) (g0 _)⟩
  -- the third: the registers
  have three : ∀ (k0 : Int32) (s2 t2 : S1), (k0 = 0 ∧ 0 ≤ l1 ∨ k0 = 1 ∧ ¬ 0 ≤ l1) → Rn5 s2 t2 → Hc p s s2 → Hr p t t2 → gI s2 18432 p = gA t2 42 0 p →
      hu (M_Ch_readHead_j80 p k0) s2 (fun v s' => hu (M_Mo_proto_j96 rec l1 l2 p) t2 (fun _ t2 => hdG rec s t l1 l2 p Q v s' → Q t2)) := by
    intro k0 s2 t2 hk rn2 hc2 hr2 e42
    unfold M_Ch_readHead_j80 M_Mo_proto_j96 M_Mo_proto_j101
    refine r_need1 ?_
    refine numC (k := 1) (by decide) rn2 ?_ ?_
    · rintro v s3 w t3 ⟨rn3, nn3, nb3, ew, v1, -, ea, e29⟩
      obtain ⟨va, vb⟩ := v1 rfl
      rw [ew]
      refine r_SI fun _ => r_AI fun _ => ?_
      have hc3 : Hc p s (sI s3 18434 p v) := (hc2.trans nn3.hc).trans (hc_w s3 p v (by decide))
      have hr3 : Hr p t (sA t3 44 0 p v) := (hr2.trans nb3.hr).trans (hr_w t3 p 0 v (by decide))
      have rn4 : Rn5 (sI s3 18434 p v) (sA t3 44 0 p v) := (rn3.ws (by decide)).tA (by decide)
      have rv : gI (sI s3 18434 p v) 18434 p = v := by rw [gI_sI, if_pos ⟨rfl, rfl⟩]
      have tv : gA (sA t3 44 0 p v) 44 0 p = v := by rw [gA_sA, if_pos ⟨rfl, rfl, rfl⟩]
      have e42' : gI (sI s3 18434 p v) 18432 p = gA (sA t3 44 0 p v) 42 0 p := by
        rw [gI_sI, if_neg (fun z => absurd z.1 (by decide)), gA_sA, if_neg (fun z => absurd z.1 (by decide)), nn3.1 18432 p (by unfold chX; decide), nb3.2.2.1]
        exact e42
      have pl : gI (sI s3 18434 p v) 12942 0 - 1 = gI (sA t3 44 0 p v) 29 0 := by
        rw [gI_sI, if_neg (fun z => absurd z.1 (by decide)), ea, Int32.add_sub_cancel]
        exact e29.symm
      rw [hu_B, hu_PI]
      generalize sI s3 18434 p v = s4 at *
      generalize sA t3 44 0 p v = t4 at *
      have badd : hu M_Ch_readHead_j127 s4 (fun v s' => hu (M_Mo_proto_j158 rec l1 l2 p) t4 (fun _ t2 => hdG rec s t l1 l2 p Q v s' → Q t2)) := by
        unfold M_Ch_readHead_j127 M_Mo_proto_j158 M_Mo_proto_j159
        exact leaf2 rn4.2.2.2.2.2 pl (skk_B (skk_Mo_number _) fun _ => skk_B skk_SI fun _ => skk_C (skk_B (skk_AI _ _ _ _) fun _ => skk_C (skk_Mo_proto_j213 hr _ _ _ _) (skk_Mo_proto_j213 hr _ _ _ _)) (skk_B (skk_AI _ _ _ _) fun _ => skk_C (skk_Mo_proto_j213 hr _ _ _ _) (skk_Mo_proto_j213 hr _ _ _ _))) g0
      rw [tv, hu_B, hu_GI, rv, hu_C]
      refine ⟨fun _ => ?_, fun c => absurd (nn0 va) c⟩
      rw [hu_B, hu_GI, rv, hu_C]
      refine ⟨fun c => r_ct ?_ badd, fun c => r_cf ?_ (r_AI fun _ => ?_)⟩
      · rw [i32_lt, e2] at c
        rw [i32_le, e1]
        omega
      · rw [i32_lt, e2] at c
        rw [i32_le, e1]
        omega
      rw [tv, hu_B, hu_GI, rv, hu_C]
      refine ⟨fun c => r_ct ?_ badd, fun c => r_cf ?_ (r_AI fun _ => r_AI fun _ => ?_)⟩
      · rw [i32_lt, e250] at c
        rw [i32_le, e251]
        omega
      · rw [i32_lt, e250] at c
        rw [i32_le, e251]
        omega
      rw [tv, hu_B, hu_GI, rv, hu_B, hu_GI, e42', hu_C]
      refine ⟨fun c => r_cf (Int32.not_lt.mpr c) ?_, fun c => r_ct (Int32.not_le.mp c) badd⟩
      unfold M_Mo_proto_j159
      refine r_need1 ?_
      exact four k0 s4 t4 hk rn4 hc3 hr3 (by rw [rv, tv])
    · intro s4 t4 hf nn4
      rw [hu_B, hu_PI, hu_B, hu_GI, gI_sI, if_pos ⟨rfl, rfl⟩, hu_C]
      exact ⟨fun c => absurd c (by decide), fun _ => r_end (hf.ws (by decide)) (skk_B skk_SI fun _ => skk_B (skk_AI _ _ _ _) fun _ => skk_C (skk_Mo_proto_j158 hr _ _ _) (skk_B (skk_AI _ _ _ _) fun _ => skk_C (skk_Mo_proto_j158 hr _ _ _) (skk_B (skk_AI _ _ _ _) fun _ => skk_B (skk_AI _ _ _ _) fun _ => skk_C (skk_Mo_proto_j158 hr _ _ _) (skk_Mo_proto_j159 hr _ _ _ _)))) (g0 _)⟩
  have main : ∀ k0 : Int32, (k0 = 0 ∧ 0 ≤ l1 ∨ k0 = 1 ∧ ¬ 0 ≤ l1) → hu (M_Ch_readHead_j12 p k0) s (fun v s' => hu (rH rec l1 l2 p) t (fun _ t2 => hdG rec s t l1 l2 p Q v s' → Q t2)) := by
    intro k0 hk
    have sk9 : ∀ x : Int32, Skk (oC (2 ≤ x) (M_Mo_proto_j100 rec l1 l2 p) (oC (0 ≤ l1) (M_Mo_proto_j96 rec l1 l2 p) (oB (oAI 43 251 0 p) fun v91 => oC (v91 = 1) (M_Mo_proto_j96 rec l1 l2 p) (M_Mo_proto_j100 rec l1 l2 p)))) := fun x => skk_C (skk_Mo_proto_j100 hr _ _ _) (skk_C (skk_Mo_proto_j96 hr _ _ _) (skk_B (skk_AI _ _ _ _) fun _ => skk_C (skk_Mo_proto_j96 hr _ _ _) (skk_Mo_proto_j100 hr _ _ _)))
    unfold M_Ch_readHead_j12 rH
    refine numC (k := 1) (by decide) h ?_ ?_
    · rintro v s1 w t1 ⟨rn1, nn1, nb1, ew, v1, -, -, -⟩
      obtain ⟨va, -⟩ := v1 rfl
      rw [ew]
      refine r_SI fun _ => ?_
      have hc1 : Hc p s (sI s1 18432 p v) := nn1.hc.trans (hc_w s1 p v (by decide))
      have hr1 : Hr p t (sA t1 42 0 p v) := nb1.hr.trans (hr_w t1 p 0 v (by decide))
      have rn2 : Rn5 (sI s1 18432 p v) (sA t1 42 0 p v) := (rn1.ws (by decide)).tA (by decide)
      have e42 : gI (sI s1 18432 p v) 18432 p = gA (sA t1 42 0 p v) 42 0 p := by rw [gI_sI, if_pos ⟨rfl, rfl⟩, gA_sA, if_pos ⟨rfl, rfl, rfl⟩]
      rw [hu_B, hu_PI, hu_B, hu_GI, gI_sI, if_pos ⟨rfl, rfl⟩, hu_C]
      refine ⟨fun _ => ?_, fun c => absurd (nn0 va) c⟩
      generalize sI s1 18432 p v = s2 at *
      generalize sA t1 42 0 p v = t2 at *
      refine numC (k := 1) (by decide) rn2 ?_ ?_
      · rintro v2 s3 w2 t3 ⟨rn3, nn3, nb3, ew2, v3, -, ea, e29⟩
        obtain ⟨vc, -⟩ := v3 rfl
        rw [ew2]
        refine r_SI fun _ => r_AI fun _ => ?_
        have hc3 : Hc p s (sI s3 18433 p v2) := (hc1.trans nn3.hc).trans (hc_w s3 p v2 (by decide))
        have hr3 : Hr p t (sA t3 43 0 p v2) := (hr1.trans nb3.hr).trans (hr_w t3 p 0 v2 (by decide))
        have rn4 : Rn5 (sI s3 18433 p v2) (sA t3 43 0 p v2) := (rn3.ws (by decide)).tA (by decide)
        have rv : gI (sI s3 18433 p v2) 18433 p = v2 := by rw [gI_sI, if_pos ⟨rfl, rfl⟩]
        have tv : gA (sA t3 43 0 p v2) 43 0 p = v2 := by rw [gA_sA, if_pos ⟨rfl, rfl, rfl⟩]
        have e42' : gI (sI s3 18433 p v2) 18432 p = gA (sA t3 43 0 p v2) 42 0 p := by
          rw [gI_sI, if_neg (fun z => absurd z.1 (by decide)), gA_sA, if_neg (fun z => absurd z.1 (by decide)), nn3.1 18432 p (by unfold chX; decide), nb3.2.2.1]
          exact e42
        have pl : gI (sI s3 18433 p v2) 12942 0 - 1 = gI (sA t3 43 0 p v2) 29 0 := by
          rw [gI_sI, if_neg (fun z => absurd z.1 (by decide)), ea, Int32.add_sub_cancel]
          exact e29.symm
        rw [hu_B, hu_PI]
        generalize sI s3 18433 p v2 = s4 at *
        generalize sA t3 43 0 p v2 = t4 at *
        have badd : hu M_Ch_readHead_j68 s4 (fun v s' => hu (M_Mo_proto_j100 rec l1 l2 p) t4 (fun _ t2 => hdG rec s t l1 l2 p Q v s' → Q t2)) := by
          unfold M_Ch_readHead_j68 M_Mo_proto_j100 M_Mo_proto_j101
          exact leaf2 rn4.2.2.2.2.2 pl (skk_B (skk_Mo_number _) fun _ => skk_B skk_SI fun _ => skk_B (skk_AI _ _ _ _) fun _ => skk_C (skk_Mo_proto_j158 hr _ _ _) (skk_B (skk_AI _ _ _ _) fun _ => skk_C (skk_Mo_proto_j158 hr _ _ _) (skk_B (skk_AI _ _ _ _) fun _ => skk_B (skk_AI _ _ _ _) fun _ => skk_C (skk_Mo_proto_j158 hr _ _ _) (skk_Mo_proto_j159 hr _ _ _ _)))) g0
        have good := three k0 s4 t4 hk rn4 hc3 hr3 e42'
        rw [tv, hu_B, hu_GI, rv, hu_C]
        refine ⟨fun _ => ?_, fun c => absurd (nn0 vc) c⟩
        rw [hu_B, hu_GI, rv, hu_C]
        refine ⟨fun c => r_ct ?_ badd, fun c => r_cf ?_ ?_⟩
        · rw [i32_lt, e1] at c
          rw [i32_le, e2]
          omega
        · rw [i32_lt, e1] at c
          rw [i32_le, e2]
          omega
        rw [hu_C]
        rcases hk with ⟨hk, hl⟩ | ⟨hk, hl⟩
        · exact ⟨fun _ => r_ct hl good, fun n => absurd hk n⟩
        · refine ⟨fun z => absurd (hk.symm.trans z) (by decide), fun _ => r_cf hl (r_AI fun _ => ?_)⟩
          rw [tv, hu_B, hu_GI, rv, hu_C]
          rw [i32_lt, e1] at c
          refine ⟨fun z => r_cf (fun y => ?_) badd, fun z => r_ct ?_ good⟩
          · rw [z] at y
            exact absurd y (by decide)
          · refine toInt_inj ?_
            have : v2.toInt ≠ 0 := fun y => z (toInt_inj y)
            rw [e1]
            omega
      · intro s4 t4 hf nn4
        rw [hu_B, hu_PI, hu_B, hu_GI, gI_sI, if_pos ⟨rfl, rfl⟩, hu_C]
        exact ⟨fun c => absurd c (by decide), fun _ => r_end (hf.ws (by decide)) (skk_B skk_SI fun _ => skk_B (skk_AI _ _ _ _) fun x => sk9 x) (g0 _)⟩
    · intro s4 t4 hf nn4
      rw [hu_B, hu_PI, hu_B, hu_GI, gI_sI, if_pos ⟨rfl, rfl⟩, hu_C]
      exact ⟨fun c => absurd c (by decide), fun _ => r_end (hf.ws (by decide)) (skk_B skk_SI fun _ => skk_B (skk_Mo_number _) fun _ => skk_B skk_SI fun _ => skk_B (skk_AI _ _ _ _) fun x => sk9 x) (g0 _)⟩
  unfold M_Ch_readHead
  rw [hu_B, hu_GI, ha, hu_C]
  exact ⟨fun c => main 0 (.inl ⟨rfl, c⟩), fun c => main 1 (.inr ⟨rfl, c⟩)⟩
