/-! Both lookings over: the loops. -/
theorem list2 {s : S1} {N : Nat} (hN : 1 ≤ N ∧ N ≤ 250) (np : (gI s 12937 0).toInt = N) (rg : Rg s N) (tr : Tr s N 0) (kp : ∀ q : Nat, q < N → 0 ≤ (gI s 18442 (Int32.ofNat q)).toInt) : hu M_Ch_listChildren s (fun _ t => Ls0 t ∧ lsF s t ∧ ∀ q : Nat, q < N → gI t 18442 (Int32.ofNat q) = gI s 18442 (Int32.ofNat q)) := by
  obtain ⟨n1, n2⟩ := hN
  have w : ok M_Ch_listChildren s (fun _ t => ldI s N N t) := by
    simp only [M_Ch_listChildren, ok_B, ok_R]
    refine ok_mono (lc1_ok n2 np rg tr) ?_
    rintro - t ⟨I, T2, Q⟩
    have A : ∀ a j q, gA t a j q = gA s a j q := fun a j q => by show t.2.2.1 _ _ _ = s.2.2.1 _ _ _; rw [T2]
    have h0 : ldI s N 1 t := by
      have c0 : ∀ q, q < N → cnt s 1 q = 0 := fun q hq => by
        rw [cnt_s]
        have w := (rg.pd (q := 0) (by decide) (by show (0 : Int32).toInt < _; have e0 : (0 : Int32).toInt = 0 := rfl; omega)).2.2.2.2.2.1.2.1 (by decide)
        rw [if_neg (fun z => ?_)]
        · rfl
        · change gI s 18444 0 = Int32.ofNat q at z
          rw [z, i32_lt, oI (by omega)] at w
          have e0 : (0 : Int32).toInt = 0 := rfl
          omega
      refine ⟨I, ⟨fun f j => by show t.2.1 _ _ = s.2.1 _ _; rw [T2], fun a j q _ => A a j q, fun a j q => by show t.2.2.2 _ _ _ = s.2.2.2 _ _ _; rw [T2]⟩, fun q hq => ⟨(Q q hq).1, ?_⟩, fun q hq j hj => ?_⟩
      · rw [(Q q hq).2, c0 q hq]
        rfl
      · rw [c0 q hq] at hj
        exact absurd hj (by omega)
    exact lc2_ok ⟨n1, n2⟩ np rg tr h0
  refine hu_mono w.det ?_
  intro _ t h
  obtain ⟨l, -, f⟩ := ls_of ⟨n1, n2⟩ np rg tr h
  refine ⟨l, f, fun q hq => ?_⟩
  obtain ⟨-, -, Q, -⟩ := h
  refine toInt_inj ?_
  rw [(Q q hq).2, Dd_le tr hq]
  unfold Dd
  exact clampI (kp q hq)
/-- the reference while it looks over -/
def Lk5 (t t1 : S1) : Prop := (∀ f i, f ≠ 30 → f ≠ 31 → gI t1 f i = gI t f i) ∧ ∀ a i j, gA t1 a i j = gA t a i j
theorem Lk5.refl (t : S1) : Lk5 t t := ⟨fun _ _ _ _ => rfl, fun _ _ _ => rfl⟩
def lkI (s t : S1) (p : Int32) (x : Int32 × Int32 × Int32) (s1 : S1) (y : Int32 × Int32) (t1 : S1) : Prop := ∃ i : Nat, x = (p, p, Int32.ofNat i) ∧ y = (p, Int32.ofNat i) ∧ (i : Int) ≤ (gI s 18439 p).toInt ∧ s1 = s ∧ Lk5 t t1
def lkO (s t : S1) (p : Int32) (e : (Int32 × Int32) ⊕ Int32) (s' : S1) (e2 : Int32) (t' : S1) : Prop := Sum.elim (fun y => s' = s ∧ y.1 = p ∧ Ff (sI (sI s 12943 0 6) 12944 0 (gI s 18441 p + 4 * y.2)) t') (fun n => n = p ∧ e2 = p ∧ s' = s ∧ Lk5 t t') e
theorem W5k.sk {α : Type} {f : M α} (h : W5k f) : Skk f := fun s a t e _ => ⟨(h s a t e).1 3 (.inl rfl), (h s a t e).1 4 (.inr rfl)⟩
theorem skk_L19 (y : Int32 × Int32) : Skk (M_Mo_lookOver_L19 y) := by
  unfold M_Mo_lookOver_L19 M_Mo_lookOver_j65
  exact skk_B (skk_AI _ _ _ _) fun _ => skk_C (skk_R _) (skk_B (skk_GI _ _) fun _ => skk_C (skk_B (w5_Mo_formed _ _).sk fun _ => skk_C (skk_B (skk_AI _ _ _ _) fun _ => skk_B (skk_AI _ _ _ _) fun _ => skk_B (skk_Mo_bad _ _) fun _ => skk_R _) (skk_R _)) (skk_R _))
theorem skk_L2 (y : Int32) : Skk (M_Mo_lookOver_L2 y) := by
  unfold M_Mo_lookOver_L2 M_Mo_lookOver_j71
  exact skk_B (skk_GI _ _) fun _ => skk_C (skk_R _) (skk_B (skk_GI _ _) fun _ => skk_C (skk_B (skk_W skk_L19 _) fun _ => skk_R _) (skk_R _))
theorem lkL {s t : S1} {p : Int32} (f3 : gI t 3 0 = 0) (pp : Pp5 s t p) (dq : dPq s p) (wk : Wk s t) : hu (oW M_Ch_checkAll_L23 (p, p, 0)) s (fun e s' => hu (oW M_Mo_lookOver_L19 (p, 0)) t (lkO s t p e s')) := by
  obtain ⟨e44, e45, e48, ⟨e49, e50, k0, n0, kn, pl⟩, e52, -⟩ := pp
  have dR : 1 ≤ (gI s 18434 p).toInt ∧ (gI s 18434 p).toInt ≤ 250 := dq.2.2.1
  have dK : (gI s 18440 p).toInt + (gI s 18439 p).toInt ≤ 20000 := dq.2.2.2.2.2.2.1.2.2
  refine hu2U (lkI s t p) ?_ _ s _ t ⟨0, rfl, rfl, n0, rfl, Lk5.refl t⟩
  rintro x s1 y t1 ⟨i, rfl, rfl, hi, es, lk⟩
  rw [es]
  have oi : (Int32.ofNat i).toInt = (i : Int) := oI (by omega)
  have f31 : gI t1 3 0 = 0 := (lk.1 _ _ (by decide) (by decide)).trans f3
  have qi : ∀ x' s' y' t', lkI s t p x' s' y' t' → lpQ M_Mo_lookOver_L19 (lkI s t p) (lkO s t p) (.inl x') s' (.inl y') t' := fun _ _ _ _ q => q
  have qo : ∀ e s' e2 t', lkO s t p e s' e2 t' → lpQ M_Mo_lookOver_L19 (lkI s t p) (lkO s t p) (.inr e) s' (.inr e2) t' := fun _ _ _ _ q => q
  have qe : ∀ e s' sf, (∀ e2 t2, Ff sf t2 → lkO s t p e s' e2 t2) → ∀ q t2, Ff sf t2 → lpQ M_Mo_lookOver_L19 (lkI s t p) (lkO s t p) (.inr e) s' q t2 := fun e s' sf h => lp_end skk_L19 h
  generalize lpQ M_Mo_lookOver_L19 (lkI s t p) (lkO s t p) = QQ at *
  unfold M_Ch_checkAll_L23 M_Mo_lookOver_L19
  refine r_AI fun _ => ?_
  rw [hu_B, hu_GI, hu_C, lk.2, ← e50]
  refine ⟨fun c => r_ct c ?_, fun c => r_cf c (r_GI (r_ct f31 ?_))⟩
  · rw [hu_R, hu_R]
    exact qo _ _ _ _ ⟨rfl, rfl, rfl, lk⟩
  rw [i32_le, oi] at c
  have c : ¬ (gI s 18439 p).toInt ≤ (i : Int) := c
  -- the two answers
  have wq : ∀ w, wfC s p (Int32.ofNat i) w ↔ wfR t1 p (Int32.ofNat i) w (if gA t1 50 0 p ≤ Int32.ofNat i + 1 then 0 else gA t1 55 0 (gA t1 49 0 p + Int32.ofNat i + 1)) := fun w => wf_eq (by rw [lk.2]; exact e44) (by rw [lk.2]; exact e45) (by rw [lk.2]; exact e48) (by rw [lk.2]; exact e49) (by rw [lk.2]; exact e50) (by rw [lk.2]; exact e52) dR (by omega) k0 dK (fun j j0 j1 => by rw [lk.2]; exact wk j (by omega) (by omega))
  have ew : gA s 104 0 (gI s 18440 p + Int32.ofNat i) = gA t1 55 0 (gA t1 49 0 p + Int32.ofNat i) := by
    rw [lk.2, lk.2, ← e49]
    have e : (gI s 18440 p + Int32.ofNat i).toInt = (gI s 18440 p).toInt + i := by
      rw [ktI_add, oi]
      rw [oi]
      omega
    exact wk _ (by omega) (by omega)
  refine r_sync (N := fun a s' b t' => s' = s ∧ t' = sI (sI t1 31 0 p) 30 0 (gA t1 44 0 p) ∧ (a = 0 ∧ b = 0 ∨ a = 1 ∧ b = 1)) ?_ ?_
  · refine hu_mono (well_h s p (Int32.ofNat i)) fun a s' qa => hu_mono (formed_h t1 p (Int32.ofNat i)) fun b t' qb => ⟨qa.1, qb.1, ?_⟩
    have z := wq (gA s 104 0 (gI s 18440 p + Int32.ofNat i))
    rw [ew] at qa z
    rcases qa.2 with ⟨a0, na⟩ | ⟨a1, pa⟩
    · rcases qb.2 with ⟨b0, -⟩ | ⟨-, pb⟩
      · exact .inl ⟨a0, b0⟩
      · exact absurd (z.2 pb) na
    · rcases qb.2 with ⟨-, nb⟩ | ⟨b1, -⟩
      · exact absurd (z.1 pa) nb
      · exact .inr ⟨a1, b1⟩
  · rintro a s' b t' ⟨es', et', o⟩
    rw [es']
    have lk' : Lk5 t t' := by
      rw [et']
      exact ⟨fun f j x y => by rw [gI_sI, if_neg (fun z => x z.1), gI_sI, if_neg (fun z => y z.1)]; exact lk.1 f j x y, fun a j k => lk.2 a j k⟩
    rcases o with ⟨ea, eb⟩ | ⟨ea, eb⟩
    · rw [ea, eb, hu_C]
      refine ⟨fun _ => r_ct rfl (r_AI fun _ => r_AI fun _ => r_bad ?_ ?_), fun z => absurd rfl z⟩
      · exact (lk'.1 _ _ (by decide) (by decide)).trans f3
      · refine r_endf (sf := sI (sI s 12943 0 6) 12944 0 (gI s 18441 p + 4 * Int32.ofNat i)) ?_ (skk_R _) (qe _ _ _ (fun _ _ q => ⟨rfl, rfl, q⟩))
        have e4 : (4 * Int32.ofNat i).toInt = 4 * (i : Int) := by
          have : (4 : Int32) * Int32.ofNat i = Int32.ofNat (4 * i) := (Int32.ofNat_mul 4 i).symm
          rw [this, oI (by omega)]
          omega
        have e : (gI s 18440 p + Int32.ofNat i).toInt = (gI s 18440 p).toInt + i := by
          rw [ktI_add, oi]
          rw [oi]
          omega
        have w := pl (gI s 18440 p + Int32.ofNat i) (by omega) (by omega)
        have b1 := Int32.toInt_lt (gA t 56 0 (gI s 18440 p + Int32.ofNat i))
        have b2 := Int32.le_toInt (gA t 56 0 (gI s 18440 p + Int32.ofNat i))
        have ep : gA t' 56 0 (gA t' 49 0 p + Int32.ofNat i) = gI s 18441 p + 4 * Int32.ofNat i := by
          rw [lk'.2, lk'.2, ← e49]
          refine toInt_inj ?_
          rw [ktI_add, e4]
          · omega
          · rw [e4]
            omega
        rw [ep]
        exact ff_set (by decide)
    · rw [ea, eb, hu_C]
      refine ⟨fun z => absurd z (by decide), fun _ => r_cf (by decide) ?_⟩
      rw [hu_R]
      unfold M_Mo_lookOver_j65
      rw [hu_R]
      exact qi _ _ _ _ ⟨i + 1, by rw [ofN1], by rw [ofN1], by omega, rfl, lk'⟩
def luI (s t : S1) (N : Nat) (x : Int32) (s1 : S1) (y : Int32) (t1 : S1) : Prop := ∃ q : Nat, x = Int32.ofNat q ∧ y = Int32.ofNat q ∧ q ≤ N ∧ s1 = s ∧ Lk5 t t1
def luO (s t : S1) (e : (Int32 × Int32) ⊕ Unit) (s' : S1) (_ : Unit) (t' : S1) : Prop := Sum.elim (fun y => s' = s ∧ Ff (sI (sI s 12943 0 6) 12944 0 (gI s 18441 y.1 + 4 * y.2)) t') (fun _ => s' = s ∧ Lk5 t t') e
theorem luL {s t : S1} {N : Nat} (hN : N ≤ 250) (n1 : gI s 12937 0 = Int32.ofNat N) (n2 : gI t 23 0 = Int32.ofNat N) (f3 : gI t 3 0 = 0) (pp : ∀ q : Nat, q < N → Pp5 s t (Int32.ofNat q) ∧ dPq s (Int32.ofNat q)) (wk : Wk s t) : hu (oW M_Ch_checkAll_L6 0) s (fun e s' => hu (oW M_Mo_lookOver_L2 0) t (luO s t e s')) := by
  have oN : (Int32.ofNat N).toInt = (N : Int) := oI (by omega)
  refine hu2U (luI s t N) ?_ _ s _ t ⟨0, rfl, rfl, by omega, rfl, Lk5.refl t⟩
  rintro x s1 y t1 ⟨q, rfl, rfl, hq, es, lk⟩
  rw [es]
  have oq : (Int32.ofNat q).toInt = (q : Int) := oI (by omega)
  have f31 : gI t1 3 0 = 0 := (lk.1 _ _ (by decide) (by decide)).trans f3
  have qi : ∀ x' s' y' t', luI s t N x' s' y' t' → lpQ M_Mo_lookOver_L2 (luI s t N) (luO s t) (.inl x') s' (.inl y') t' := fun _ _ _ _ q => q
  have qo : ∀ e s' e2 t', luO s t e s' e2 t' → lpQ M_Mo_lookOver_L2 (luI s t N) (luO s t) (.inr e) s' (.inr e2) t' := fun _ _ _ _ q => q
  have qe : ∀ e s' sf, (∀ e2 t2, Ff sf t2 → luO s t e s' e2 t2) → ∀ q t2, Ff sf t2 → lpQ M_Mo_lookOver_L2 (luI s t N) (luO s t) (.inr e) s' q t2 := fun e s' sf h => lp_end skk_L2 h
  generalize lpQ M_Mo_lookOver_L2 (luI s t N) (luO s t) = QQ at *
  unfold M_Ch_checkAll_L6 M_Mo_lookOver_L2
  refine r_GI ?_
  rw [hu_B, hu_GI, hu_C, lk.1 23 0 (by decide) (by decide), n1, n2]
  refine ⟨fun c => r_ct c ?_, fun c => r_cf c (r_GI (r_ct f31 ?_))⟩
  · rw [hu_R, hu_R]
    exact qo _ _ _ _ ⟨rfl, lk⟩
  rw [i32_le, oN, oq] at c
  rw [hu_B, hu_Pz]
  intro _
  obtain ⟨pq, dq⟩ := pp q (by omega)
  have pq1 : Pp5 s t1 (Int32.ofNat q) := by
    obtain ⟨h1, h2, h3, ⟨k1, k2, k3, k4, k5, k6⟩, h5, h6⟩ := pq
    exact ⟨by rw [lk.2]; exact h1, by rw [lk.2]; exact h2, by rw [lk.2]; exact h3, ⟨by rw [lk.2]; exact k1, by rw [lk.2]; exact k2, k3, k4, k5, fun j a b => by rw [lk.2]; exact k6 j a b⟩, by rw [lk.2]; exact h5, h6⟩
  have wk1 : Wk s t1 := fun j a b => by rw [lk.2]; exact wk j a b
  refine r_sync (lkL f31 pq1 dq wk1) ?_
  intro e s' b t' o
  unfold M_Mo_lookOver_j71
  rcases e with e | e
  · obtain ⟨es', ep, hf⟩ := o
    show hu (oR (Sum.inr (Sum.inl (e.1, e.2)))) s' _
    rw [es']
    refine r_endf hf (skk_R _) (qe _ _ _ (fun _ _ z => ⟨rfl, ?_⟩))
    show Ff (sI (sI s 12943 0 6) 12944 0 (gI s 18441 e.1 + 4 * e.2)) _
    rw [ep]
    exact z
  · obtain ⟨en, eb, es', lk'⟩ := o
    show hu (oR (Sum.inl (e + 1))) s' _
    rw [es', en, eb, hu_R, hu_R]
    exact qi _ _ _ _ ⟨q + 1, by rw [ofN1], by rw [ofN1], by omega, rfl, ⟨fun f j x y => (lk'.1 f j x y).trans (lk.1 f j x y), fun a j k => (lk'.2 a j k).trans (lk.2 a j k)⟩⟩
/-- both lookings over, whole -/
def luP (s t : S1) (v : Int32) (s' : S1) (_ : Unit) (t' : S1) : Prop := (v = 0 → Ff s' t') ∧ (v ≠ 0 → gI s' 12943 0 = gI s 12943 0 ∧ gI s' 12944 0 = gI s 12944 0 ∧ Lk5 t t')
theorem look2 {s t : S1} (rd : raD s) {N : Nat} (hN : N ≤ 250) (ra : Rall s t N) : hu M_Ch_checkAll s (fun v s' => hu M_Mo_lookOver t (luP s t v s')) := by
  obtain ⟨rn, rc, wk, n1, n2, pp⟩ := ra
  obtain ⟨M, m1, m2, rg, tr, np⟩ := rd
  have eM : M = N := by
    have np' := np
    rw [n1, oI (by omega)] at np'
    omega
  subst eM
  unfold M_Ch_checkAll M_Mo_lookOver
  rw [hu_B]
  refine hu_mono (list2 ⟨m1, m2⟩ np rg tr (fun q hq => (pp q hq).2.2.2.2.2)) ?_
  intro _ u ⟨l0, lf, l2⟩
  have A : ∀ a j k, a ≠ 103 → gA u a j k = gA s a j k := lf.2.2.1
  have I : ∀ f j, f ≠ 18442 ∧ f ≠ 18443 → gI u f j = gI s f j := lf.1
  have wku : Wk u t := fun j a b => by
    unfold rK at b
    rw [I _ _ (by decide)] at b
    rw [A _ _ _ (by decide)]
    exact wk j a b
  have ppu : ∀ q : Nat, q < M → Pp5 u t (Int32.ofNat q) ∧ dPq u (Int32.ofNat q) := fun q hq => by
    have oq := oI (k := q) (by omega)
    obtain ⟨h1, h2, h3, ⟨k1, k2, k3, k4, k5, k6⟩, h5, h6⟩ := pp q hq
    refine ⟨⟨by rw [I _ _ (by decide)]; exact h1, by rw [I _ _ (by decide)]; exact h2, by rw [I _ _ (by decide)]; exact h3, ⟨by rw [I _ _ (by decide)]; exact k1, by rw [I _ _ (by decide)]; exact k2, by rw [I _ _ (by decide)]; exact k3, by rw [I _ _ (by decide)]; exact k4, ?_, fun j a b => ?_⟩, by rw [l2 q hq]; exact h5, by rw [l2 q hq]; exact h6⟩, l0.2.2.1 _ (by omega) ?_⟩
    · unfold rK
      rw [I _ _ (by decide), I _ _ (by decide), I _ _ (by decide)]
      exact k5
    · rw [I 18440 _ (by decide)] at a b ⊢
      rw [I 18439 _ (by decide)] at b
      rw [I 18441 _ (by decide)]
      exact k6 j a b
    · unfold nPr
      rw [I _ _ (by decide), np]
      omega
  refine r_sync (luL m2 (by rw [I _ _ (by decide)]; exact n1) n2 rn.2.2.2.2.2 ppu wku) ?_
  intro e s' b t' o
  rcases e with e | e
  · obtain ⟨es', hf⟩ := o
    show hu (oB (oGI 18441 e.1) fun v44 => oB (M_Ch_refuse 6 (v44 + (4 * e.2))) fun v51 => oB (oK (v51 = 0 ∨ v51 = 1)) fun _ => oR v51) s' _
    rw [es', hu_B, hu_GI]
    refine c_ref (r_end hf (skk_R _) (fun _ t2 z => ⟨fun _ => z, fun n => absurd rfl n⟩))
  · obtain ⟨es', lk⟩ := o
    show hu (oR (1 : Int32)) s' _
    rw [es', hu_R, hu_R]
    exact ⟨fun z => absurd z (by decide), fun _ => ⟨I _ _ (by decide), I _ _ (by decide), lk⟩⟩
