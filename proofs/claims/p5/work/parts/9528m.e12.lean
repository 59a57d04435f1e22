/-! Both lookings over: the reference's names. -/
section YA
variable {t : S1} {P X Y : Prop}
theorem ya_T : hu (oR (1 : Int32)) t (Ya t True) := (hu_R _ _ _).2 (ya1 trivial)
theorem ya_F : hu (oR (0 : Int32)) t (Ya t False) := (hu_R _ _ _).2 (ya0 id)
theorem ya_C {c : Prop} [Decidable c] {A B : M Int32} (ha : c → hu A t (Ya t X)) (hb : ¬ c → hu B t (Ya t Y)) : hu (oC c A B) t (Ya t (if c then X else Y)) := by
  rw [hu_C]
  refine ⟨fun h => ?_, fun h => ?_⟩
  · rw [if_pos h]
    exact ha h
  · rw [if_neg h]
    exact hb h
theorem ya_Ci {c : Prop} [Decidable c] {A B : M Int32} (ha : c → hu A t (Ya t X)) (hb : ¬ c → hu B t (Ya t Y)) : hu (oC c A B) t (Ya t ((c → X) ∧ (¬ c → Y))) := by
  rw [hu_C]
  exact ⟨fun h => hu_mono (ha h) fun _ _ q => Ya.iff q ⟨fun z => ⟨fun _ => z, fun n => absurd h n⟩, fun z => z.1 h⟩, fun h => hu_mono (hb h) fun _ _ q => Ya.iff q ⟨fun z => ⟨fun n => absurd n h, fun _ => z⟩, fun z => z.2 h⟩⟩
theorem ya_Cf {c : Prop} [Decidable c] {A B : M Int32} (ha : c → hu A t (Ya t False)) (hb : ¬ c → hu B t (Ya t Y)) : hu (oC c A B) t (Ya t (¬ c ∧ Y)) := hu_mono (ya_Ci ha hb) fun _ _ q => Ya.iff q ⟨fun z => ⟨z.1, z.2 z.1⟩, fun z => ⟨z.1, fun _ => z.2⟩⟩
theorem ya_Cg {c : Prop} [Decidable c] {A B : M Int32} (ha : c → hu A t (Ya t False)) (hb : ¬ c → hu B t (Ya t True)) : hu (oC c A B) t (Ya t (¬ c)) := hu_mono (ya_Ci ha hb) fun _ _ q => Ya.iff q ⟨fun z => z.1, fun z => ⟨z, fun _ => trivial⟩⟩
theorem ya_Ct {c : Prop} [Decidable c] {A B : M Int32} (ha : c → hu A t (Ya t True)) (hb : ¬ c → hu B t (Ya t Y)) : hu (oC c A B) t (Ya t (¬ c → Y)) := hu_mono (ya_Ci ha hb) fun _ _ q => Ya.iff q ⟨fun z => z.2, fun z => ⟨fun _ => trivial, z⟩⟩
theorem ya_and1 {f A B : M Int32} (h : hu f t (Ya t P)) (k0 : hu A t (Ya t False)) (k1 : hu B t (Ya t True)) : hu (oB f fun v => oC (v = 0) A B) t (Ya t P) := hu_ask h (fun n => hu_mono k0 fun _ _ q => Ya.iff q ⟨fun z => absurd z id, fun z => n z⟩) (fun p => hu_mono k1 fun _ _ q => Ya.iff q ⟨fun _ => p, fun _ => trivial⟩)
theorem ya_AI {a : Nat} {n i j : Int32} {R : Int32 → M Int32} (k : (0 ≤ j ∧ j < n) → hu (R (gA t a i j)) t (Ya t P)) : hu (oB (oAI a n i j) R) t (Ya t P) := by
  rw [hu_B, hu_AI]
  exact k
theorem ya_and {f A B : M Int32} (h : hu f t (Ya t P)) (k0 : hu A t (Ya t False)) (k1 : hu B t (Ya t Y)) : hu (oB f fun v => oC (v = 0) A B) t (Ya t (P ∧ Y)) := hu_ask h (fun n => hu_mono k0 fun _ _ q => q.iff ⟨fun z => absurd z id, fun z => n z.1⟩) (fun p => hu_mono k1 fun _ _ q => q.iff ⟨fun z => ⟨p, z⟩, fun z => z.2⟩)
theorem ya_ret {f : M Int32} (h : hu f t (Ya t P)) : hu (oB f fun v => oB (oK (v = 0 ∨ v = 1)) fun _ => oR v) t (Ya t P) := by
  rw [hu_B]
  refine hu_mono h fun v u q => ?_
  rw [hu_B, hu_K]
  intro _
  rw [hu_R]
  exact q
end YA
/-- what the reference asks of a place that is gone to -/
def gsR (t : S1) (p x : Int32) : Prop := ¬ x < 0 ∧ ¬ gA t 50 0 p ≤ x ∧ ¬ dUs (gA t 55 0 (gA t 49 0 p + x))
theorem reg_h (t : S1) (x : Int32) : hu (M_Mo_reg x) t (Ya t (¬ gI t 30 0 ≤ x)) := by
  unfold M_Mo_reg
  rw [hu_B, hu_GI, hu_C]
  exact ⟨fun c => (hu_R _ _ _).2 (ya0 (fun n => n c)), fun c => (hu_R _ _ _).2 (ya1 c)⟩
theorem rk_h (t : S1) (x : Int32) : hu (M_Mo_rk x) t (Ya t (rkP x (gI t 30 0) (gA t 48 0 (gI t 31 0)))) := by
  unfold M_Mo_rk rkP
  refine ya_Ci (fun _ => ?_) (fun _ => ?_)
  · rw [hu_B, hu_GI, hu_B, hu_AI]
    intro _
    rw [hu_C]
    exact ⟨fun c => (hu_R _ _ _).2 (ya0 (fun n => n c)), fun c => (hu_R _ _ _).2 (ya1 c)⟩
  · rw [hu_B, hu_GI, hu_C]
    exact ⟨fun c => (hu_R _ _ _).2 (ya0 (fun n => n c)), fun c => (hu_R _ _ _).2 (ya1 c)⟩
theorem rUses_h (t : S1) (w : Int32) : hu (M_Mo_uses w) t (Ya t (dUs w)) := by
  unfold M_Mo_uses M_Mo_uses_j29 M_Mo_uses_j40 M_Mo_b M_Mo_op
  simp only [hu_B, hu_C, hu_R]
  have b : (w &&& 63 = 36 ∨ w &&& 63 = 37 ∨ w &&& 63 = 38 ∨ w &&& 63 = 43) → (iushr w 23 = 0 → Ya t (dUs w) 1 t) ∧ (¬ iushr w 23 = 0 → Ya t (dUs w) 0 t) := fun o => ⟨fun z => ya1 ⟨o, z⟩, fun z => ya0 (fun y => z y.2)⟩
  exact ⟨fun o => b (.inl o), fun n1 => ⟨fun o => b (.inr (.inl o)), fun n2 => ⟨fun o => b (.inr (.inr (.inl o))), fun n3 => ⟨fun o => b (.inr (.inr (.inr o))), fun n4 => ya0 (fun y => y.1.elim n1 (fun y => y.elim n2 (fun y => y.elim n3 n4)))⟩⟩⟩⟩
theorem rMakes_h (t : S1) (w : Int32) : hu (M_Mo_makes w) t (Ya t (dMk w)) := by
  unfold M_Mo_makes M_Mo_makes_j16 M_Mo_makes_j36 M_Mo_makes_j32 M_Mo_b M_Mo_c M_Mo_op
  simp only [hu_B, hu_C, hu_R, sh14]
  have j16 : ¬ (w &&& 63 = 36 ∧ iushr w 14 &&& 511 = 0) → (w &&& 63 = 45 → (iushr w 23 = 0 → Ya t (dMk w) 1 t) ∧ (¬ iushr w 23 = 0 → Ya t (dMk w) 0 t)) ∧ (¬ w &&& 63 = 45 → Ya t (dMk w) 0 t) := fun n => ⟨fun o => ⟨fun b => ya1 (.inr ⟨o, b⟩), fun b => ya0 (fun z => z.elim n (fun y => b y.2))⟩, fun o => ya0 (fun z => z.elim n (fun y => o y.1))⟩
  exact ⟨fun o => ⟨fun c => ya1 (.inl ⟨o, c⟩), fun c => j16 (fun z => c z.2)⟩, fun o => j16 (fun z => o z.1)⟩
theorem goes_h (t : S1) (x : Int32) : hu (M_Mo_goes x) t (Ya t (gsR t (gI t 31 0) x)) := by
  unfold M_Mo_goes M_Mo_goes_j43 gsR
  rw [hu_C]
  refine ⟨fun c => (hu_R _ _ _).2 (ya0 (fun y => y.1 c)), fun c => ?_⟩
  rw [hu_B, hu_GI, hu_B, hu_AI]
  intro _
  rw [hu_C]
  refine ⟨fun d => (hu_R _ _ _).2 (ya0 (fun y => y.2.1 d)), fun d => ?_⟩
  rw [hu_B, hu_GI, hu_B, hu_AI]
  intro _
  rw [hu_B, hu_AI]
  intro _
  exact hu_ask (rUses_h t _) (fun n => (hu_R _ _ _).2 (ya1 ⟨c, d, n⟩)) (fun q => (hu_R _ _ _).2 (ya0 (fun y => y.2.2 q)))
def nmR (o a b c x i R U K Z : Int32) (G : Int32 → Prop) : Prop := (if o = 0 ∨ o = 25 ∨ o = 26 ∨ o = 27 ∨ o = 28 then ((¬ R ≤ a) ∧ (¬ R ≤ b)) else (if o = 1 then ((¬ R ≤ a) ∧ (¬ K ≤ x)) else (if o = 3 then ((¬ R ≤ a) ∧ (¬ c = 0 → (G (i + 2)))) else (if o = 4 then (¬ R ≤ (a + b)) else (if o = 5 ∨ o = 9 then ((¬ R ≤ a) ∧ (¬ U ≤ b)) else (if o = 6 then ((¬ R ≤ a) ∧ (¬ U ≤ b ∧ (rkP c R K))) else (if o = 7 then ((¬ R ≤ a) ∧ ((¬ R ≤ b) ∧ (rkP c R K))) else (if o = 8 then (¬ U ≤ a ∧ ((rkP b R K) ∧ (rkP c R K))) else (if o = 10 then ((¬ R ≤ a) ∧ ((rkP b R K) ∧ (rkP c R K))) else (if o = 11 then (¬ R ≤ a) else (if o = 12 then ((¬ R ≤ (a + 1)) ∧ ((¬ R ≤ b) ∧ (rkP c R K))) else (if o = 13 ∨ o = 14 ∨ o = 15 ∨ o = 16 ∨ o = 19 ∨ o = 20 ∨ o = 21 ∨ o = 22 ∨ o = 23 ∨ o = 24 then ((¬ R ≤ a) ∧ ((rkP b R K) ∧ (rkP c R K))) else (if o = 29 then ((¬ R ≤ a) ∧ (¬ c ≤ b ∧ (¬ R ≤ c))) else (if o = 30 then ((a = 0 → (G ((i + 1) + (x - 131071)))) ∧ (¬ a = 0 → ((¬ R ≤ (a - 1)) ∧ (G ((i + 1) + (x - 131071)))))) else (if o = 31 ∨ o = 32 ∨ o = 33 then (¬ 2 ≤ a ∧ ((rkP b R K) ∧ (rkP c R K))) else (if o = 34 then ((¬ R ≤ a) ∧ (¬ 2 ≤ c)) else (if o = 35 then ((¬ R ≤ a) ∧ ((¬ R ≤ b) ∧ (¬ 2 ≤ c))) else (if o = 36 then ((¬ R ≤ a) ∧ ((b = 0 → (¬ c < 2 → (¬ R ≤ ((a + c) - 2)))) ∧ (¬ b = 0 → ((¬ R ≤ ((a + b) - 1)) ∧ (¬ c < 2 → (¬ R ≤ ((a + c) - 2))))))) else (if o = 37 then ((¬ R ≤ a) ∧ (¬ b = 0 → (¬ R ≤ ((a + b) - 1)))) else (if o = 38 then ((¬ R ≤ a) ∧ (¬ b < 2 → (¬ R ≤ ((a + b) - 2)))) else (if o = 39 then ((¬ R ≤ (a + 3)) ∧ (G ((i + 1) + (x - 131071)))) else (if o = 40 then ((¬ R ≤ (a + 3)) ∧ (G ((i + 1) + (x - 131071)))) else (if o = 41 then (¬ c ≤ 0 ∧ (¬ R ≤ ((a + 2) + c))) else (if o = 42 then ((¬ R ≤ (a + 1)) ∧ (G ((i + 1) + (x - 131071)))) else (if o = 43 then (¬ c ≤ 0 ∧ ((¬ R ≤ a) ∧ (¬ b = 0 → (¬ R ≤ (a + b))))) else (if o = 44 then ((¬ R ≤ a) ∧ (¬ Z ≤ x)) else (if o = 45 then ((¬ R ≤ a) ∧ (¬ b < 2 → (¬ R ≤ ((a + b) - 2)))) else False)))))))))))))))))))))))))))
theorem named_h {t : S1} {p i w o R U K Z : Int32} (h31 : gI t 31 0 = p) (hR : gI t 30 0 = R) (hU : gA t 45 0 p = U) (hK : gA t 48 0 p = K) (hZ : gA t 52 0 p = Z) : hu (M_Mo_named p i w o) t (Ya t (nmR o (iushr w 6 &&& 255) (iushr w 23) (iushr w 14 &&& 511) (iushr w 14) i R U K Z (gsR t p))) := by
  subst hR hU hK hZ
  have reg_q := reg_h t
  have rk_q : ∀ x, hu (M_Mo_rk x) t (Ya t (rkP x (gI t 30 0) (gA t 48 0 p))) := fun x => by
    have z := rk_h t x
    rw [h31] at z
    exact z
  have goes_q : ∀ x, hu (M_Mo_goes x) t (Ya t (gsR t p x)) := fun x => by
    have z := goes_h t x
    rw [h31] at z
    exact z
  unfold M_Mo_named nmR
  simp only [M_Mo_a, M_Mo_b, M_Mo_c, M_Mo_bx, M_Mo_sbx, oB_R, sh14, sh6, M_Mo_named_j242, M_Mo_named_j270, M_Mo_named_j296, M_Mo_named_j300, M_Mo_named_j336, M_Mo_named_j371, M_Mo_named_j404, M_Mo_named_j439, M_Mo_named_j472, M_Mo_named_j514, M_Mo_named_j547, M_Mo_named_j578, M_Mo_named_j596, M_Mo_named_j615, M_Mo_named_j645, M_Mo_named_j666, M_Mo_named_j696, M_Mo_named_j726, M_Mo_named_j746, M_Mo_named_j750, M_Mo_named_j780, M_Mo_named_j784, M_Mo_named_j815, M_Mo_named_j819, M_Mo_named_j851, M_Mo_named_j883, M_Mo_named_j908, M_Mo_named_j940, M_Mo_named_j973, M_Mo_named_j977, M_Mo_named_j1005, M_Mo_named_j1036, M_Mo_named_j1040]
  exact (ya_C (fun _ => (ya_and (reg_q _) ya_F (ya_and1 (reg_q _) ya_F ya_T))) (fun _ => (ya_C (fun _ => (ya_and (reg_q _) ya_F (ya_AI fun _ => (ya_Cg (fun _ => ya_F) (fun _ => ya_T))))) (fun _ => (ya_C (fun _ => (ya_and (reg_q _) ya_F (ya_Ct (fun _ => ya_T) (fun _ => (ya_and1 (goes_q _) ya_F ya_T))))) (fun _ => (ya_C (fun _ => (ya_ret (reg_q _))) (fun _ => (ya_C (fun _ => (ya_and (reg_q _) ya_F (ya_AI fun _ => (ya_Cg (fun _ => ya_F) (fun _ => ya_T))))) (fun _ => (ya_C (fun _ => (ya_and (reg_q _) ya_F (ya_AI fun _ => (ya_Cf (fun _ => ya_F) (fun _ => (ya_and1 (rk_q _) ya_F ya_T)))))) (fun _ => (ya_C (fun _ => (ya_and (reg_q _) ya_F (ya_and (reg_q _) ya_F (ya_and1 (rk_q _) ya_F ya_T)))) (fun _ => (ya_C (fun _ => (ya_AI fun _ => (ya_Cf (fun _ => ya_F) (fun _ => (ya_and (rk_q _) ya_F (ya_and1 (rk_q _) ya_F ya_T)))))) (fun _ => (ya_C (fun _ => (ya_and (reg_q _) ya_F (ya_and (rk_q _) ya_F (ya_and1 (rk_q _) ya_F ya_T)))) (fun _ => (ya_C (fun _ => (ya_ret (reg_q _))) (fun _ => (ya_C (fun _ => (ya_and (reg_q _) ya_F (ya_and (reg_q _) ya_F (ya_and1 (rk_q _) ya_F ya_T)))) (fun _ => (ya_C (fun _ => (ya_and (reg_q _) ya_F (ya_and (rk_q _) ya_F (ya_and1 (rk_q _) ya_F ya_T)))) (fun _ => (ya_C (fun _ => (ya_and (reg_q _) ya_F (ya_Cf (fun _ => ya_F) (fun _ => (ya_and1 (reg_q _) ya_F ya_T))))) (fun _ => (ya_C (fun _ => (ya_Ci (fun _ => (ya_and1 (goes_q _) ya_F ya_T)) (fun _ => (ya_and (reg_q _) ya_F (ya_and1 (goes_q _) ya_F ya_T))))) (fun _ => (ya_C (fun _ => (ya_Cf (fun _ => ya_F) (fun _ => (ya_and (rk_q _) ya_F (ya_and1 (rk_q _) ya_F ya_T))))) (fun _ => (ya_C (fun _ => (ya_and (reg_q _) ya_F (ya_Cg (fun _ => ya_F) (fun _ => ya_T)))) (fun _ => (ya_C (fun _ => (ya_and (reg_q _) ya_F (ya_and (reg_q _) ya_F (ya_Cg (fun _ => ya_F) (fun _ => ya_T))))) (fun _ => (ya_C (fun _ => (ya_and (reg_q _) ya_F (ya_Ci (fun _ => (ya_Ct (fun _ => ya_T) (fun _ => (ya_and1 (reg_q _) ya_F ya_T)))) (fun _ => (ya_and (reg_q _) ya_F (ya_Ct (fun _ => ya_T) (fun _ => (ya_and1 (reg_q _) ya_F ya_T)))))))) (fun _ => (ya_C (fun _ => (ya_and (reg_q _) ya_F (ya_Ct (fun _ => ya_T) (fun _ => (ya_and1 (reg_q _) ya_F ya_T))))) (fun _ => (ya_C (fun _ => (ya_and (reg_q _) ya_F (ya_Ct (fun _ => ya_T) (fun _ => (ya_and1 (reg_q _) ya_F ya_T))))) (fun _ => (ya_C (fun _ => (ya_and (reg_q _) ya_F (ya_and1 (goes_q _) ya_F ya_T))) (fun _ => (ya_C (fun _ => (ya_and (reg_q _) ya_F (ya_and1 (goes_q _) ya_F ya_T))) (fun _ => (ya_C (fun _ => (ya_Cf (fun _ => ya_F) (fun _ => (ya_and1 (reg_q _) ya_F ya_T)))) (fun _ => (ya_C (fun _ => (ya_and (reg_q _) ya_F (ya_and1 (goes_q _) ya_F ya_T))) (fun _ => (ya_C (fun _ => (ya_Cf (fun _ => ya_F) (fun _ => (ya_and (reg_q _) ya_F (ya_Ct (fun _ => ya_T) (fun _ => (ya_and1 (reg_q _) ya_F ya_T))))))) (fun _ => (ya_C (fun _ => (ya_and (reg_q _) ya_F (ya_AI fun _ => (ya_Cg (fun _ => ya_F) (fun _ => ya_T))))) (fun _ => (ya_C (fun _ => (ya_and (reg_q _) ya_F (ya_Ct (fun _ => ya_T) (fun _ => (ya_and1 (reg_q _) ya_F ya_T))))) (fun _ => ya_F))))))))))))))))))))))))))))))))))))))))))))))))))))))
