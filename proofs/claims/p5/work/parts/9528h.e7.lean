/-! Both readings: a prototype's parts put together. -/
theorem r_sync {α δ β γ : Type} {f : M α} {g : M δ} {C : α → M β} {R : δ → M γ} {s t : S1} {Q : β → S1 → γ → S1 → Prop} {N : α → S1 → δ → S1 → Prop} (h : hu f s (fun a s' => hu g t (N a s'))) (k : ∀ a s' b t', N a s' b t' → hu (C a) s' (fun r s2 => hu (R b) t' (Q r s2))) : hu (oB f C) s (fun r s2 => hu (oB g R) t (Q r s2)) := by
  rw [hu_B]
  intro a s' E r s2 E2
  rw [hu_B]
  intro b t' E3
  exact k a s' b t' (h a s' E b t' E3) r s2 E2
/-- the class refuses as it was told -/
theorem c_rfz {γ : Type} {s t : S1} {a k : Int32} {R : M γ} {Q : Int32 → S1 → γ → S1 → Prop} (hf : Ff (rfz s a k) t) (sk : Skk R) (hg : ∀ s' b t2, Ff s' t2 → Q 0 s' b t2) :
    hu (oB (oGI 12942 0) fun v => oB (M_Ch_refuse a (v - k)) fun v => oB (oK (v = 0 ∨ v = 1)) fun _ => oR v) s (fun r s2 => hu R t (Q r s2)) := by
  rw [hu_B, hu_GI]
  exact c_ref (r_end hf sk (hg _))
theorem c_rfz0 {γ : Type} {s t : S1} {a : Int32} {R : M γ} {Q : Int32 → S1 → γ → S1 → Prop} (hf : Ff (rfz s a 0) t) (sk : Skk R) (hg : ∀ s' b t2, Ff s' t2 → Q 0 s' b t2) :
    hu (oB (oGI 12942 0) fun v => oB (M_Ch_refuse a v) fun v => oB (oK (v = 0 ∨ v = 1)) fun _ => oR v) s (fun r s2 => hu R t (Q r s2)) := by
  rw [hu_B, hu_GI]
  unfold rfz at hf
  rw [sub05] at hf
  exact c_ref (r_end hf sk (hg _))
/-! the upvalues -/
def Uc1 (p : Int32) (s s' : S1) : Prop := (∀ f j, ¬ chX f → f ≠ 12940 → ¬ (f = 18436 ∧ j = p) → gI s' f j = gI s f j) ∧ (∀ a i j, a ≠ 107 → gA s' a i j = gA s a i j)
def Ut1 (t t' : S1) : Prop := (∀ f i, f ≠ 3 → f ≠ 4 → f ≠ 28 → f ≠ 29 → f ≠ 24 → gI t' f i = gI t f i) ∧ (∀ a i j, a ≠ 53 → a ≠ 46 → gA t' a i j = gA t a i j)
def upG (rec : Int32 → Int32 → M (Unit)) (s t : S1) (l2 p : Int32) (Q : S1 → Prop) (v : Int32) (s' : S1) : Prop := (v = 0 → ∀ t', Ff s' t' → Q t') ∧ (v ≠ 0 → ∀ t', Rn5 s' t' → Uc1 p s s' → Ut1 t t' → hu (oB (M_Mo_readConstants p) fun _ => rQ rec l2 p) t' (fun _ t2 => Q t2))
theorem up2 {rec : Int32 → Int32 → M (Unit)} (hr : ∀ a b, Skk (rec a b)) {s t : S1} {l1 l2 p : Int32} {Q : S1 → Prop} (rn : Rn5 s t) (e45 : gI s 18435 p = gA t 45 0 p) (ea : gI s 18444 p = l1) (eo : 0 ≤ l1 → gI s 18434 l1 = gA t 44 0 l1 ∧ gI s 18435 l1 = gA t 45 0 l1) :
    hu (M_Ch_readUpvalues p) s (fun v s' => hu (rUp5 rec l1 l2 p) t (fun _ t2 => upG rec s t l2 p Q v s' → Q t2)) := by
  have I : ∀ f j, ¬ (f = 18436 ∧ j = p) → gI (sI s 18436 p (gI s 12940 0)) f j = gI s f j := fun f j z => by rw [gI_sI, if_neg z]
  have A : ∀ a i j, a ≠ 46 → gA (sA t 46 0 p (gI t 24 0)) a i j = gA t a i j := fun a i j z => by rw [gA_sA, if_neg (fun y => z y.1)]
  have g0 : ∀ s' (a : Unit) t2, Ff s' t2 → upG rec s t l2 p Q 0 s' → Q t2 := fun s' _ t2 f g => g.1 rfl t2 f
  unfold M_Ch_readUpvalues rUp5
  refine r_GI (r_SI fun _ => ?_)
  rw [hu_B, hu_GI, hu_B, hu_PI]
  refine r_sync (upL5 hr ((rn.ws (by decide)).tA (by decide)) ?_ ?_ ?_) ?_
  · rw [I _ _ (fun z => absurd z.1 (by decide)), A _ _ _ (by decide)]
    exact e45
  · rw [I _ _ (fun z => absurd z.1 (by decide))]
    exact ea
  · intro hl
    rw [I _ _ (fun z => absurd z.1 (by decide)), I _ _ (fun z => absurd z.1 (by decide)), A _ _ _ (by decide), A _ _ _ (by decide)]
    exact eo hl
  · have sk : ∀ b : Int32 × Int32, Skk (oB (M_Mo_readConstants b.2) fun _ => rQ rec b.1 b.2) := fun b => skk_B (skk_Mo_readConstants _) fun _ => by
      unfold rQ
      exact skk_B (skk_Mo_number _) fun _ => skk_C (skk_Mo_proto_j283 hr _ _ _ _) (skk_Mo_proto_j283 hr _ _ _ _)
    intro e s' b t' o
    rcases e with e | e | e | e | e
    · exact r_end o (sk b) (g0 _)
    · exact c_rfz o (sk b) g0
    · exact r_end o (sk b) (g0 _)
    · exact c_rfz o (sk b) g0
    · obtain ⟨eb, rn', uc, ut⟩ := o
      rw [eb]
      show hu (oR (1 : Int32)) s' _
      rw [hu_R]
      intro a t2 E g
      exact g.2 (by decide) t' rn' ⟨fun f j x y z => (uc.1 f j x y).trans (I f j z), fun a i j x => uc.2 a i j x⟩ ⟨fun f i x y z w q => ut.1 f i x y z w q, fun a i j x y => (ut.2 a i j x).trans (A a i j y)⟩ a t2 E
/-! the constants -/
def Kc1 (p : Int32) (s s' : S1) : Prop := (∀ f j, ¬ chX f → f ≠ 12938 → ¬ ((f = 18437 ∨ f = 18438) ∧ j = p) → gI s' f j = gI s f j) ∧ (∀ a i j, a ≠ 105 → gA s' a i j = gA s a i j)
def Kt1 (p : Int32) (t t' : S1) : Prop := (∀ f i, f ≠ 3 → f ≠ 4 → f ≠ 28 → f ≠ 29 → f ≠ 25 → gI t' f i = gI t f i) ∧ (∀ a i j, a ≠ 57 → a ≠ 2 → a ≠ 47 → ¬ (a = 48 ∧ j = p) → gA t' a i j = gA t a i j)
def knG (REST : M (Unit)) (s t : S1) (p : Int32) (Q : S1 → Prop) (v : Int32) (s' : S1) : Prop := (v = 0 → ∀ t', Ff s' t' → Q t') ∧ (v ≠ 0 → ∀ t', Rn5 s' t' → Rc s' t' → gI s' 18437 p = gA t' 48 0 p → Kc1 p s s' → Kt1 p t t' → hu REST t' (fun _ t2 => Q t2))
theorem kn2 {REST : M (Unit)} (skR : Skk REST) {s t : S1} {p : Int32} {Q : S1 → Prop} (rn : Rn5 s t) (rc : Rc s t) :
    hu (M_Ch_readConstants p) s (fun v s' => hu (oB (M_Mo_readConstants p) fun _ => REST) t (fun _ t2 => knG REST s t p Q v s' → Q t2)) := by
  have g0 : ∀ s' (a : Unit) t2, Ff s' t2 → knG REST s t p Q 0 s' → Q t2 := fun s' _ t2 f g => g.1 rfl t2 f
  have I : ∀ f j, ¬ (f = 18438 ∧ j = p) → gI (sI s 18438 p (gI s 12938 0)) f j = gI s f j := fun f j z => by rw [gI_sI, if_neg z]
  simp only [M_Ch_readConstants, M_Mo_readConstants, oB_assoc, oB_R]
  rw [hu_B, hu_GI, hu_B, hu_PI]
  refine numC (k := 2) (by decide) (rn.ws (by decide)) ?_ ?_
  · rintro v s2 w t2 ⟨rn2, nn2, nb2, ew, -, v2, -, -⟩
    obtain ⟨va, vb⟩ := v2 rfl
    refine r_GI (r_SI fun _ => r_SI fun _ => ?_)
    rw [ew, hu_B, hu_PI, hu_B, hu_GI, gI_sI, if_pos ⟨rfl, rfl⟩, hu_C]
    refine ⟨fun _ => ?_, fun c => absurd (nn0 va) c⟩
    have I2 : ∀ f j, ¬ (f = 18437 ∧ j = p) → gI (sI s2 18437 p v) f j = gI s2 f j := fun f j z => by rw [gI_sI, if_neg z]
    have i7 : gI (sI s2 18437 p v) 18437 p = v := by rw [gI_sI, if_pos ⟨rfl, rfl⟩]
    have A2 : ∀ a i j, a ≠ 47 → ¬ (a = 48 ∧ i = 0 ∧ j = p) → gA (sA (sA t2 47 0 p (gI t2 25 0)) 48 0 p v) a i j = gA t2 a i j := fun a i j y z => by rw [gA_sA, if_neg z, gA_sA, if_neg (fun x => y x.1)]
    have a8 : gA (sA (sA t2 47 0 p (gI t2 25 0)) 48 0 p v) 48 0 p = v := by rw [gA_sA, if_pos ⟨rfl, rfl, rfl⟩]
    have rn3 : Rn5 (sI s2 18437 p v) (sA (sA t2 47 0 p (gI t2 25 0)) 48 0 p v) := ((rn2.ws (by decide)).tA (by decide)).tA (by decide)
    have rc0 : Rc (sI s 18438 p (gI s 12938 0)) t := rc.of (I _ _ (fun z => absurd z.1 (by decide))) (I _ _ (fun z => absurd z.1 (by decide))) rfl rfl
    have rc3 : Rc (sI s2 18437 p v) (sA (sA t2 47 0 p (gI t2 25 0)) 48 0 p v) := (rc0.nu nn2 nb2).of (I2 _ _ (fun z => absurd z.1 (by decide))) (I2 _ _ (fun z => absurd z.1 (by decide))) rfl rfl
    have A3 : ∀ a i j, gA (sI s2 18437 p v) a i j = gA s2 a i j := fun _ _ _ => rfl
    have J2 : ∀ f i, gI (sA (sA t2 47 0 p (gI t2 25 0)) 48 0 p v) f i = gI t2 f i := fun _ _ => rfl
    generalize sI s2 18437 p v = s3 at *
    generalize sA (sA t2 47 0 p (gI t2 25 0)) 48 0 p v = t3 at *
    refine r_sync (kcL5 rn3 rc3 i7) ?_
    intro e s' b t' o
    rcases e with e | e | e | e | e
    · exact r_end o skR (g0 _)
    · exact c_rfz o skR g0
    · exact c_rfz o skR g0
    · exact r_end o skR (g0 _)
    · obtain ⟨rn', rc', kc, kt⟩ := o
      show hu (oR (1 : Int32)) s' _
      rw [hu_R]
      intro a t2' E g
      refine g.2 (by decide) t' rn' rc' ?_ ⟨fun f j x y z => ?_, fun a i j x => ?_⟩ ⟨fun f i x y z w q => ?_, fun a i j x y z w => ?_⟩ a t2' E
      · rw [kc.1 _ _ (by unfold chX; decide) (by decide), kt.2 _ _ _ (by decide) (by decide), i7, a8]
      · exact (kc.1 f j x y).trans ((I2 f j (fun q => z ⟨.inl q.1, q.2⟩)).trans ((nn2.1 f j x).trans (I f j (fun q => z ⟨.inr q.1, q.2⟩))))
      · rw [kc.2 a i j x]
        rw [A3, nn2.A]
        rfl
      · exact (kt.1 f i x y z w q).trans ((J2 f i).trans (nb2.1 f i x y z w))
      · exact (kt.2 a i j x y).trans ((A2 a i j z (fun q => w ⟨q.1, q.2.2⟩)).trans (nb2.2.2.1 a i j))
  · intro s2 t2 hf nn2
    rw [hu_B, hu_PI, hu_B, hu_GI, gI_sI, if_pos ⟨rfl, rfl⟩, hu_C]
    exact ⟨fun c => absurd c (by decide), fun _ => r_end (hf.ws (by decide)) (skk_B (skk_GI _ _) fun _ => skk_B skk_SI fun _ => skk_B skk_SI fun _ => skk_B (skk_W (fun y => skk_Mo_readConstants_L26 y) _) fun _ => skR) (g0 _)⟩
