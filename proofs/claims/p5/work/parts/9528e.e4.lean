/-! Both readings: upvalues. -/
theorem oB_assoc {α β γ : Type} (f : M α) (g : α → M β) (h : β → M γ) : oB (oB f g) h = oB f (fun a => oB (g a) h) := by
  funext s
  show oB (oB f g) h s = oB f (fun a => oB (g a) h) s
  unfold oB
  cases f s with
  | none => rfl
  | some q => rfl
theorem oB_C {α β : Type} (c : Prop) [Decidable c] (f g : M α) (h : α → M β) : oB (oC c f g) h = oC c (oB f h) (oB g h) := by
  funext s
  unfold oC oB
  by_cases d : c
  · simp only [if_pos d]
  · simp only [if_neg d]
theorem oB_R {α β : Type} (a : α) (h : α → M β) : oB (oR a) h = h a := rfl
/-- what a turn of two loops must leave -/
def lpQ {σ ρ τ ω : Type} (b2 : τ → M (τ ⊕ ω)) (I : σ → S1 → τ → S1 → Prop) (Q : ρ → S1 → ω → S1 → Prop) (r : σ ⊕ ρ) (s' : S1) (q : τ ⊕ ω) (t' : S1) : Prop :=
  Sum.elim (fun x' => Sum.elim (fun y' => I x' s' y' t') (fun _ => False) q) (fun e => Sum.elim (fun z => hu (oW b2 z) t' (Q e s')) (fun e2 => Q e s' e2 t') q) r
theorem hu2U {σ ρ τ ω : Type} {b1 : σ → M (σ ⊕ ρ)} {b2 : τ → M (τ ⊕ ω)} (I : σ → S1 → τ → S1 → Prop) {Q : ρ → S1 → ω → S1 → Prop} (hb : ∀ x s y t, I x s y t → hu (b1 x) s (fun r s' => hu (b2 y) t (lpQ b2 I Q r s'))) :
    ∀ x s y t, I x s y t → hu (oW b1 x) s (fun e s' => hu (oW b2 y) t (Q e s')) := by
  refine hu2W I fun x s y t hI => hu_mono (hb x s y t hI) ?_
  intro r s' h
  cases r with
  | inl x' => exact h
  | inr e =>
    show hu (oW b2 y) t (fun e2 t' => Q e s' e2 t')
    rw [hu_Wu]
    exact h
theorem lp_end {σ ρ τ ω : Type} {b2 : τ → M (τ ⊕ ω)} (skb : ∀ y, Skk (b2 y)) {I : σ → S1 → τ → S1 → Prop} {Q : ρ → S1 → ω → S1 → Prop} {e : ρ} {s' sf : S1} (hq : ∀ e2 t2, Ff sf t2 → Q e s' e2 t2) : ∀ q t2, Ff sf t2 → lpQ b2 I Q (.inr e) s' q t2 := by
  intro q t2 hf
  cases q with
  | inl z =>
    show hu (oW b2 z) t2 (Q e s')
    intro e2 t3 E
    exact hq e2 t3 (hf.sk (skk_W skb z t2 e2 t3 E))
  | inr e2 => exact hq e2 t2 hf
theorem r_endf {β γ : Type} {s t sf : S1} {Q : β → S1 → γ → S1 → Prop} {v : β} {R : M γ} (hf : Ff sf t) (sk : Skk R) (h : ∀ a t2, Ff sf t2 → Q v s a t2) : hu (oR v) s (fun r s2 => hu R t (Q r s2)) := by
  rw [hu_R]
  intro a t2 E
  exact h a t2 (hf.sk (sk t a t2 E))
def rfz (s : S1) (a k : Int32) : S1 := sI (sI s 12943 0 a) 12944 0 (gI s 12942 0 - k)
def Uc (s s' : S1) : Prop := (∀ f j, ¬ chX f → f ≠ 12940 → gI s' f j = gI s f j) ∧ (∀ a i j, a ≠ 107 → gA s' a i j = gA s a i j)
def Ut (t t' : S1) : Prop := (∀ f i, f ≠ 3 → f ≠ 4 → f ≠ 28 → f ≠ 29 → f ≠ 24 → gI t' f i = gI t f i) ∧ (∀ a i j, a ≠ 53 → gA t' a i j = gA t a i j)
theorem Uc.refl (s : S1) : Uc s s := ⟨fun _ _ _ _ => rfl, fun _ _ _ _ => rfl⟩
theorem Ut.refl (s : S1) : Ut s s := ⟨fun _ _ _ _ _ _ _ => rfl, fun _ _ _ _ => rfl⟩
theorem Uc.trans {s u v : S1} (a : Uc s u) (b : Uc u v) : Uc s v := ⟨fun f j x y => (b.1 f j x y).trans (a.1 f j x y), fun c i j x => (b.2 c i j x).trans (a.2 c i j x)⟩
theorem Ut.trans {s u v : S1} (a : Ut s u) (b : Ut u v) : Ut s v := ⟨fun f i x y z w q => (b.1 f i x y z w q).trans (a.1 f i x y z w q), fun c i j x => (b.2 c i j x).trans (a.2 c i j x)⟩
theorem Nn.uc {s u : S1} (h : Nn s u) : Uc s u := ⟨fun f j x _ => h.1 f j x, fun a i j _ => h.A a i j⟩
theorem Nb.ut {s u : S1} (h : Nb s u) : Ut s u := ⟨fun f i x y z w _ => h.1 f i x y z w, fun a i j _ => h.2.2.1 a i j⟩
def upI5 (s t : S1) (p l1 l2 : Int32) (x : Int32 × Int32) (s1 : S1) (y : Int32 × Int32 × Int32 × Int32) (t1 : S1) : Prop := ∃ i, x = (p, i) ∧ y = (l1, l2, p, i) ∧ Rn5 s1 t1 ∧ Uc s s1 ∧ Ut t t1
def upO (s t : S1) (p l2 : Int32) (e : Unit ⊕ Unit ⊕ Unit ⊕ Unit ⊕ Unit) (s' : S1) (e2 : Int32 × Int32) (t' : S1) : Prop := Sum.elim (fun _ => Ff s' t') (Sum.elim (fun _ => Ff (rfz s' 2 1) t') (Sum.elim (fun _ => Ff s' t') (Sum.elim (fun _ => Ff (rfz s' 2 1) t') (fun _ => e2 = (l2, p) ∧ Rn5 s' t' ∧ Uc s s' ∧ Ut t t')))) e
theorem upL5 {rec : Int32 → Int32 → M (Unit)} (hr : ∀ a b, Skk (rec a b)) {s t : S1} {p l1 l2 : Int32} (rn : Rn5 s t) (e45 : gI s 18435 p = gA t 45 0 p) (ea : gI s 18444 p = l1) (eo : 0 ≤ l1 → gI s 18434 l1 = gA t 44 0 l1 ∧ gI s 18435 l1 = gA t 45 0 l1) :
    hu (oW M_Ch_readUpvalues_L10 (p, 0)) s (fun e s' => hu (oW (M_Mo_proto_L237 rec) (l1, l2, p, 0)) t (upO s t p l2 e s')) := by
  have e0 : (0 : Int32).toInt = 0 := rfl
  have e1 : (1 : Int32).toInt = 1 := rfl
  have e2 : (2 : Int32).toInt = 2 := rfl
  have skL : ∀ y, Skk (M_Mo_proto_L237 rec y) := fun y => skk_Mo_proto_L237 hr y
  refine hu2U (upI5 s t p l1 l2) ?_ _ s _ t ⟨0, rfl, rfl, rn, Uc.refl s, Ut.refl t⟩
  rintro x s1 y t1 ⟨i, rfl, rfl, rn1, uc1, ut1⟩
  have q5 : gI s1 18435 p = gA t1 45 0 p := by rw [uc1.1 _ _ (by unfold chX; decide) (by decide), ut1.2 _ _ _ (by decide)]; exact e45
  have qa : gI s1 18444 p = l1 := by rw [uc1.1 _ _ (by unfold chX; decide) (by decide)]; exact ea
  have qi : ∀ x' s' y' t', upI5 s t p l1 l2 x' s' y' t' → lpQ (M_Mo_proto_L237 rec) (upI5 s t p l1 l2) (upO s t p l2) (.inl x') s' (.inl y') t' := fun _ _ _ _ q => q
  have qo : ∀ e s' e2 t', upO s t p l2 e s' e2 t' → lpQ (M_Mo_proto_L237 rec) (upI5 s t p l1 l2) (upO s t p l2) (.inr e) s' (.inr e2) t' := fun _ _ _ _ q => q
  have qe : ∀ e s' sf, (∀ e2 t2, Ff sf t2 → upO s t p l2 e s' e2 t2) → ∀ q t2, Ff sf t2 → lpQ (M_Mo_proto_L237 rec) (upI5 s t p l1 l2) (upO s t p l2) (.inr e) s' q t2 := fun e s' sf h => lp_end skL h
  generalize lpQ (M_Mo_proto_L237 rec) (upI5 s t p l1 l2) (upO s t p l2) = QQ at *
  unfold M_Ch_readUpvalues_L10 M_Mo_proto_L237
  refine r_AI fun _ => ?_
  rw [hu_B, hu_GI, hu_C]
  refine ⟨fun c => ?_, fun c => ?_⟩
  · rw [q5] at c
    refine r_ct c ?_
    rw [hu_R, hu_R]
    exact qo _ _ _ _ ⟨rfl, rn1, uc1, ut1⟩
  rw [q5] at c
  refine r_cf c ?_
  simp only [M_Mo_upvalue, oB_assoc, oB_C]
  refine numC (k := 1) (by decide) rn1 ?_ ?_
  · rintro v s2 w t2 ⟨rn2, nn2, nb2, ew, v1, -, eat, e29⟩
    obtain ⟨va, vb⟩ := v1 rfl
    have qa2 : gI s2 18444 p = l1 := by rw [nn2.1 _ _ (by unfold chX; decide)]; exact qa
    have uc2 := uc1.trans nn2.uc
    have ut2 := ut1.trans nb2.ut
    have pl : gI s2 12942 0 - 1 = gI t2 29 0 := by rw [eat, e29, Int32.add_sub_cancel]
    rw [hu_C]
    refine ⟨fun _ => ?_, fun c => absurd (nn0 va) c⟩
    rw [hu_B, hu_GI, qa2, ew]
    -- what comes behind the kind
    have next : hu (M_Ch_readUpvalues_j54 p i v) s2 (fun r s' => hu (oB (M_Mo_upvalue_j25 l1 v) fun _ => oR (Sum.inl (l1, l2, p, i + 1))) t2 (QQ r s')) := by
      unfold M_Ch_readUpvalues_j54
      simp only [M_Mo_upvalue_j25, oB_assoc, oB_C]
      refine numC (k := 1) (by decide) rn2 ?_ ?_
      · rintro v2 s3 w2 t3 ⟨rn3, nn3, nb3, ew2, v3, -, eat3, e293⟩
        obtain ⟨vc, vd⟩ := v3 rfl
        have uc3 := uc2.trans nn3.uc
        have ut3 := ut2.trans nb3.ut
        have qa3 : gI s3 18444 p = l1 := by rw [nn3.1 _ _ (by unfold chX; decide)]; exact qa2
        have pl3 : gI s3 12942 0 - 1 = gI t3 29 0 := by rw [eat3, e293, Int32.add_sub_cancel]
        have f3 : gI t3 3 0 = 0 := rn3.2.2.2.2.2
        rw [hu_C]
        refine ⟨fun _ => ?_, fun c => absurd (nn0 vc) c⟩
        rw [hu_B, hu_GI, qa3, ew2]
        -- it is noted in both
        have note : ∀ a b : Int32, hu (M_Ch_readUpvalues_j127 p i a (gI s3 12940 0)) s3 (fun r s' => hu (oB (M_Mo_upvalue_j76 v v2) fun _ => oR (Sum.inl (l1, l2, p, i + 1))) t3 (QQ r s')) := by
          intro a b
          unfold M_Ch_readUpvalues_j127
          simp only [M_Mo_upvalue_j76, oB_assoc, oB_C, oB_R]
          refine r_GI (r_ct f3 (r_GI (r_PI (r_SI fun _ => ?_))))
          rw [hu_B, hu_SI]
          intro _
          rw [hu_B, hu_GI, hu_B, hu_PI, hu_R, hu_R]
          refine qi _ _ _ _ ⟨i + 1, rfl, rfl, ((((rn3.wA (by decide)).ws (by decide)).wt (by decide)).tA (by decide)), uc3.trans ⟨fun f j x y => ?_, fun c j k x => ?_⟩, ut3.trans ⟨fun f j _ _ _ _ y => ?_, fun c j k x => ?_⟩⟩
          · rw [gI_sI, if_neg (fun z => y z.1)]
            rfl
          · show gA (sA s3 107 _ _ _) c j k = _
            rw [gA_sA, if_neg (fun z => x z.1)]
          · show gI (sI t3 24 _ _) f j = _
            rw [gI_sI, if_neg (fun z => y z.1)]
          · rw [gA_sA, if_neg (fun z => x z.1)]
            rfl
        have both : hu (M_Ch_readUpvalues_j105 p i v v2) s3 (fun r s' => hu (oB (M_Mo_upvalue_j76 v v2) fun _ => oR (Sum.inl (l1, l2, p, i + 1))) t3 (QQ r s')) := by
          unfold M_Ch_readUpvalues_j105
          rw [hu_B, hu_GI, hu_C]
          exact ⟨fun _ => note _ 0, fun _ => note _ 0⟩
        rw [hu_C]
        refine ⟨fun c => r_ct c both, fun c => r_cf c ?_⟩
        have hl : 0 ≤ l1 := Int32.not_lt.mp c
        obtain ⟨o4, o5⟩ := eo hl
        have o4 : gI s3 18434 l1 = gA t3 44 0 l1 := by rw [uc3.1 _ _ (by unfold chX; decide) (by decide), ut3.2 _ _ _ (by decide)]; exact o4
        have o5 : gI s3 18435 l1 = gA t3 45 0 l1 := by rw [uc3.1 _ _ (by unfold chX; decide) (by decide), ut3.2 _ _ _ (by decide)]; exact o5
        have bad2 : ∀ R : Unit → M ((Int32 × Int32 × Int32 × Int32) ⊕ (Int32 × Int32)), Skk (R ()) → hu (oR (Sum.inr (Sum.inr (Sum.inr (Sum.inr (Sum.inl ())))))) s3 (fun r s' => hu (oB (M_Mo_need 0) R) t3 (QQ r s')) := fun R sk => by
          refine r_need0 f3 (r_endf (sf := rfz s3 2 1) ?_ sk (qe _ _ _ (fun _ _ q => q)))
          unfold rfz
          rw [pl3]
          exact ff_set (by decide)
        rw [hu_B, hu_GI, qa3, hu_B, hu_Pz]
        intro _
        refine r_GI (r_ct f3 ?_)
        simp only [M_Ch_mostOf, oB_assoc, oB_C, oB_R]
        rw [hu_C]
        refine ⟨fun d => r_ct d (r_AI fun _ => ?_), fun d => r_cf d (r_AI fun _ => ?_)⟩
        · rw [hu_B, hu_GI, o4]
          simp only [M_Mo_upvalue_j65, M_Mo_upvalue_j73, oB_assoc, oB_C]
          rw [hu_C]
          exact ⟨fun x => r_cf (Int32.not_le.mpr x) (r_need1 both), fun x => r_ct (Int32.not_lt.mp x) (bad2 _ (by repeat' with_reducible (first | apply skk_B | apply skk_C | apply skk_L | exact skk_R _ | exact skk_GI _ _ | exact skk_AI _ _ _ _ | exact skk_SI | exact skk_SL | exact skk_K _ | exact skk_PI (by decide) | exact skk_Mo_number _ | exact skk_Mo_need _ | exact skk_Mo_bad _ _ | exact skk_Mo_upvalue_j76 _ _ | exact skk_Mo_upvalue_j73 _ _ _ | exact skk_Mo_upvalue_j65 _ _ _ _ | exact skk_Mo_upvalue_j22 _ _ _ | exact skk_Mo_upvalue_j25 _ _ | exact skk_Mo_upvalue _ | exact skk_Va_set _ _ _ _ _ | exact skk_Mo_readConstants_j213 _ _ | exact skk_Mo_readConstants_j184 _ _ _ _ | exact skk_Mo_readConstants_j173 _ _ _ _ _ | exact skk_Mo_readConstants_j110 _ _ _ _ | exact skk_Mo_readConstants_j90 _ _ _ _ | exact skk_Mo_readConstants_j78 _ _ _ | exact skk_Mo_readConstants_L26 _ | exact skk_Mo_readConstants _ | exact skk_Mo_proto_L237 hr _ | exact skk_Mo_proto_j365 hr _ _ _ _ _ _ | exact skk_Mo_proto_L307 hr _ | exact skk_Mo_proto_L458 hr _ | exact skk_Mo_proto_j410 hr _ _ | exact skk_Mo_proto_j283 hr _ _ _ _ | exact skk_Mo_proto_j213 hr _ _ _ _ | exact hr _ _ | apply skk_W | apply skk_E | intro _)))⟩
        · rw [hu_B, hu_GI, o5]
          simp only [M_Mo_upvalue_j65, M_Mo_upvalue_j73, oB_assoc, oB_C]
          rw [hu_C]
          exact ⟨fun x => r_cf (Int32.not_le.mpr x) (r_need1 both), fun x => r_ct (Int32.not_lt.mp x) (bad2 _ (by repeat' with_reducible (first | apply skk_B | apply skk_C | apply skk_L | exact skk_R _ | exact skk_GI _ _ | exact skk_AI _ _ _ _ | exact skk_SI | exact skk_SL | exact skk_K _ | exact skk_PI (by decide) | exact skk_Mo_number _ | exact skk_Mo_need _ | exact skk_Mo_bad _ _ | exact skk_Mo_upvalue_j76 _ _ | exact skk_Mo_upvalue_j73 _ _ _ | exact skk_Mo_upvalue_j65 _ _ _ _ | exact skk_Mo_upvalue_j22 _ _ _ | exact skk_Mo_upvalue_j25 _ _ | exact skk_Mo_upvalue _ | exact skk_Va_set _ _ _ _ _ | exact skk_Mo_readConstants_j213 _ _ | exact skk_Mo_readConstants_j184 _ _ _ _ | exact skk_Mo_readConstants_j173 _ _ _ _ _ | exact skk_Mo_readConstants_j110 _ _ _ _ | exact skk_Mo_readConstants_j90 _ _ _ _ | exact skk_Mo_readConstants_j78 _ _ _ | exact skk_Mo_readConstants_L26 _ | exact skk_Mo_readConstants _ | exact skk_Mo_proto_L237 hr _ | exact skk_Mo_proto_j365 hr _ _ _ _ _ _ | exact skk_Mo_proto_L307 hr _ | exact skk_Mo_proto_L458 hr _ | exact skk_Mo_proto_j410 hr _ _ | exact skk_Mo_proto_j283 hr _ _ _ _ | exact skk_Mo_proto_j213 hr _ _ _ _ | exact hr _ _ | apply skk_W | apply skk_E | intro _)))⟩
      · intro s3 t3 hf nn3
        rw [hu_C]
        exact ⟨fun c => absurd c (by decide), fun _ => r_endf hf (by repeat' with_reducible (first | apply skk_B | apply skk_C | apply skk_L | exact skk_R _ | exact skk_GI _ _ | exact skk_AI _ _ _ _ | exact skk_SI | exact skk_SL | exact skk_K _ | exact skk_PI (by decide) | exact skk_Mo_number _ | exact skk_Mo_need _ | exact skk_Mo_bad _ _ | exact skk_Mo_upvalue_j76 _ _ | exact skk_Mo_upvalue_j73 _ _ _ | exact skk_Mo_upvalue_j65 _ _ _ _ | exact skk_Mo_upvalue_j22 _ _ _ | exact skk_Mo_upvalue_j25 _ _ | exact skk_Mo_upvalue _ | exact skk_Va_set _ _ _ _ _ | exact skk_Mo_readConstants_j213 _ _ | exact skk_Mo_readConstants_j184 _ _ _ _ | exact skk_Mo_readConstants_j173 _ _ _ _ _ | exact skk_Mo_readConstants_j110 _ _ _ _ | exact skk_Mo_readConstants_j90 _ _ _ _ | exact skk_Mo_readConstants_j78 _ _ _ | exact skk_Mo_readConstants_L26 _ | exact skk_Mo_readConstants _ | exact skk_Mo_proto_L237 hr _ | exact skk_Mo_proto_j365 hr _ _ _ _ _ _ | exact skk_Mo_proto_L307 hr _ | exact skk_Mo_proto_L458 hr _ | exact skk_Mo_proto_j410 hr _ _ | exact skk_Mo_proto_j283 hr _ _ _ _ | exact skk_Mo_proto_j213 hr _ _ _ _ | exact hr _ _ | apply skk_W | apply skk_E | intro _)) (qe _ _ _ (fun _ _ q => q))⟩
    rw [hu_C]
    refine ⟨fun c => r_ct c next, fun c => r_cf c ?_⟩
    rw [hu_C]
    refine ⟨fun d => r_cf ?_ ?_, fun d => r_ct ?_ ?_⟩
    · rw [i32_le, e1] at d
      rw [i32_le, e2]
      omega
    · simp only [M_Mo_upvalue_j22, oB_assoc]
      exact r_need1 next
    · rw [i32_le, e1] at d
      rw [i32_le, e2]
      omega
    · simp only [M_Mo_upvalue_j22, oB_assoc]
      refine r_need0 rn2.2.2.2.2.2 (r_endf (sf := rfz s2 2 1) ?_ (by repeat' with_reducible (first | apply skk_B | apply skk_C | apply skk_L | exact skk_R _ | exact skk_GI _ _ | exact skk_AI _ _ _ _ | exact skk_SI | exact skk_SL | exact skk_K _ | exact skk_PI (by decide) | exact skk_Mo_number _ | exact skk_Mo_need _ | exact skk_Mo_bad _ _ | exact skk_Mo_upvalue_j76 _ _ | exact skk_Mo_upvalue_j73 _ _ _ | exact skk_Mo_upvalue_j65 _ _ _ _ | exact skk_Mo_upvalue_j22 _ _ _ | exact skk_Mo_upvalue_j25 _ _ | exact skk_Mo_upvalue _ | exact skk_Va_set _ _ _ _ _ | exact skk_Mo_readConstants_j213 _ _ | exact skk_Mo_readConstants_j184 _ _ _ _ | exact skk_Mo_readConstants_j173 _ _ _ _ _ | exact skk_Mo_readConstants_j110 _ _ _ _ | exact skk_Mo_readConstants_j90 _ _ _ _ | exact skk_Mo_readConstants_j78 _ _ _ | exact skk_Mo_readConstants_L26 _ | exact skk_Mo_readConstants _ | exact skk_Mo_proto_L237 hr _ | exact skk_Mo_proto_j365 hr _ _ _ _ _ _ | exact skk_Mo_proto_L307 hr _ | exact skk_Mo_proto_L458 hr _ | exact skk_Mo_proto_j410 hr _ _ | exact skk_Mo_proto_j283 hr _ _ _ _ | exact skk_Mo_proto_j213 hr _ _ _ _ | exact hr _ _ | apply skk_W | apply skk_E | intro _)) (qe _ _ _ (fun _ _ q => q)))
      unfold rfz
      rw [pl]
      exact ff_set (by decide)
  · intro s2 t2 hf nn2
    rw [hu_C]
    exact ⟨fun c => absurd c (by decide), fun _ => r_endf hf (by repeat' with_reducible (first | apply skk_B | apply skk_C | apply skk_L | exact skk_R _ | exact skk_GI _ _ | exact skk_AI _ _ _ _ | exact skk_SI | exact skk_SL | exact skk_K _ | exact skk_PI (by decide) | exact skk_Mo_number _ | exact skk_Mo_need _ | exact skk_Mo_bad _ _ | exact skk_Mo_upvalue_j76 _ _ | exact skk_Mo_upvalue_j73 _ _ _ | exact skk_Mo_upvalue_j65 _ _ _ _ | exact skk_Mo_upvalue_j22 _ _ _ | exact skk_Mo_upvalue_j25 _ _ | exact skk_Mo_upvalue _ | exact skk_Va_set _ _ _ _ _ | exact skk_Mo_readConstants_j213 _ _ | exact skk_Mo_readConstants_j184 _ _ _ _ | exact skk_Mo_readConstants_j173 _ _ _ _ _ | exact skk_Mo_readConstants_j110 _ _ _ _ | exact skk_Mo_readConstants_j90 _ _ _ _ | exact skk_Mo_readConstants_j78 _ _ _ | exact skk_Mo_readConstants_L26 _ | exact skk_Mo_readConstants _ | exact skk_Mo_proto_L237 hr _ | exact skk_Mo_proto_j365 hr _ _ _ _ _ _ | exact skk_Mo_proto_L307 hr _ | exact skk_Mo_proto_L458 hr _ | exact skk_Mo_proto_j410 hr _ _ | exact skk_Mo_proto_j283 hr _ _ _ _ | exact skk_Mo_proto_j213 hr _ _ _ _ | exact hr _ _ | apply skk_W | apply skk_E | intro _)) (qe _ _ _ (fun _ _ q => q))⟩
