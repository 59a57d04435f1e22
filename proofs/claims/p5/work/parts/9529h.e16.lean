/-! Both readings: load. -/
theorem cl_done {n1 : Nat} {s1 : S1} {e : (Nat × Nat) ⊕ (Nat × Nat) ⊕ (Nat × Nat) ⊕ (Nat × Nat)} {s' : S1} (h : CLh 0 n1 s1 (e, s')) (hn : 0 < n1) (hn2 : n1 ≤ 250) : (∃ ln, e = .inl ln) ∧ s' = s1 := by
  obtain ⟨d, ln, -, hd, hz, E⟩ := h
  have on : (Int32.ofNat n1).toInt = (n1 : Int) := oI (by omega)
  have e0 : (0 : Int32).toInt = 0 := rfl
  have e250 : (250 : Int32).toInt = 250 := rfl
  have w : hu (oW M_Ch_readAll_L9 (Int32.ofNat d, Int32.ofNat n1, ln)) s1 (fun e s' => (∃ ln, e = .inl ln) ∧ s' = s1) := by
    rw [hu_Wu]
    unfold M_Ch_readAll_L9
    rw [hu_C]
    refine ⟨fun c => ?_, fun _ => ?_⟩
    · rw [i32_lt, on, e250] at c
      omega
    rw [hu_B]
    refine hu_mono (wo2 (D := 0) (Nat.zero_le _) hd hz (fun z => absurd z (by omega))) ?_
    rintro v u ⟨ev, eu⟩
    rw [eu, hu_C]
    refine ⟨fun c => ?_, fun _ => ?_⟩
    · rw [i32_le, on, e0] at c
      omega
    rw [hu_C]
    refine ⟨fun _ => ?_, fun c => absurd ev c⟩
    rw [hu_R]
    exact ⟨⟨_, rfl⟩, rfl⟩
  exact w e s' E
/-- the reference's text behind the reading -/
def rAf (REST : M (Int32 × (Nat × Nat))) : M (Int32 × (Nat × Nat)) :=
  oB (oGI 3 0) fun v62 =>
  oC (v62 = 0)
    (oB (oGI 28 0) fun v69 =>
    oB (oGI 1 0) fun v73 =>
    oC (v69 = v73)
      REST
      (oB (oGI 28 0) fun v82 =>
      oB (M_Mo_bad 5 v82) fun _ =>
      REST))
    REST
def rdG (REST : M (Int32 × (Nat × Nat))) (Q : Int32 × (Nat × Nat) → S1 → Prop) (r : Int32 × (Nat × Nat)) (s' : S1) : Prop := (r.1 = 0 → ∀ t', Ff s' t' → hu REST t' Q) ∧ (r.1 ≠ 0 → ∀ t' (N : Nat), N ≤ 250 → Rall s' t' N → hu REST t' Q)
theorem rd2 {REST : M (Int32 × (Nat × Nat))} {Q : Int32 × (Nat × Nat) → S1 → Prop} {S T : S1} {n : Nat × Nat} (ra : Rall S T 0) : hu (oB (oW M_Ch_readAll_L9 (0, 0, n)) fun e9 =>
  Sum.elim
    (fun y9_30 : (Nat × Nat) =>
      oB (oGI 12942 0) fun v31 =>
      oB (oGI 12941 0) fun v35 =>
      oC (v31 = v35)
        (M_Ch_readAll_j53 y9_30)
        (oB (oGI 12942 0) fun v44 =>
        oB (M_Ch_refuse 5 v44) fun v47 =>
        oC (v47 = 0)
          (oR (0, y9_30))
          (M_Ch_readAll_j53 y9_30)))
    (Sum.elim
      (fun y9_72 : (Nat × Nat) =>
        M_Ch_readAll_j72 y9_72)
      (Sum.elim
        (fun y9_106 : (Nat × Nat) =>
          oR (0, y9_106))
        (fun y9_155 : (Nat × Nat) =>
          oR (0, y9_155)))) e9) S (fun r s' => hu (oB (M_Mo_proto 25 (-1) 1) fun _ => rAf REST) T (fun v t' => rdG REST Q r s' → Q v t')) := by
  refine r_sync (N := fun e s' _ t' => trO S 0 0 (e, s') t') ?_ ?_
  · intro e s' E
    exact tree2 25 S T 0 0 (-1) (e, s') ra (by omega) (by omega) (fun _ => ⟨rfl, rfl⟩) (fun z => absurd z (by omega)) ⟨0, n, Nat.le_refl _, by omega, fun j a b => by omega, E⟩
  · have flt : ∀ (r : Int32 × (Nat × Nat)) (sf t' : S1), r.1 = 0 → Ff sf t' → hu (rAf REST) t' (fun v t2 => rdG REST Q r sf → Q v t2) := fun r sf t' hr hf => by
      unfold rAf
      rw [hu_B, hu_GI, hu_C]
      exact ⟨fun z => absurd z hf.1, fun _ v t2 E g => g.1 hr t' hf v t2 E⟩
    intro e s' b t' o
    rcases o with o | ⟨n1, s1, q1, q2, q3, q4, -⟩
    · rcases e with e | e | e | e
      · exact absurd o id
      · have o : Ff (rfz s' 3 0) t' := o
        show hu (M_Ch_readAll_j72 e) s' _
        unfold M_Ch_readAll_j72 M_Ch_refuse
        simp only [hu_B, hu_R, hu_K, hu_GI, hu_PI]
        intro _
        unfold rfz at o
        rw [sub05] at o
        exact flt (0, e) _ t' rfl o
      · have o : Ff s' t' := o
        show hu (oR (0, e)) s' _
        rw [hu_R]
        exact flt (0, e) _ t' rfl o
      · exact absurd o id
    · obtain ⟨⟨ln, ee⟩, es⟩ := cl_done q4 (by omega) q2
      rw [ee, es]
      obtain ⟨h1, h2, -, -, h5, h6⟩ := id q1.1
      show hu (oB (oGI 12942 0) fun v31 => oB (oGI 12941 0) fun v35 => oC (v31 = v35) (M_Ch_readAll_j53 ln) (oB (oGI 12942 0) fun v44 => oB (M_Ch_refuse 5 v44) fun v47 => oC (v47 = 0) (oR (0, ln)) (M_Ch_readAll_j53 ln))) s1 _
      unfold rAf
      refine r_GI (r_ct h6 (r_GI (r_GI ?_)))
      rw [hu_B, hu_GI, hu_B, hu_GI, hu_C]
      refine ⟨fun c => r_ct (by rw [← h1, ← h2]; exact c) ?_, fun c => r_cf (fun z => c (by rw [h1, h2]; exact z)) (r_GI (r_bad h6 ?_))⟩
      · unfold M_Ch_readAll_j53
        rw [hu_R]
        exact fun v t2 E g => g.2 (show (1 : Int32) ≠ 0 by decide) t' n1 q2 q1 v t2 E
      · unfold M_Ch_refuse
        simp only [hu_B, hu_C, hu_R, hu_GI, hu_PI]
        refine ⟨fun _ v t2 E g => ?_, fun z => absurd trivial z⟩
        refine g.1 rfl _ ?_ v t2 E
        rw [h1]
        exact ff_set (by decide)
theorem Zk.f43 {b : Bool} {α : Type} {f : M α} (h : Zk 111 b f) {n : Nat} (hn : n < 14208) : Fk n f := fun s a t e => (h s a t e).1 n 0 (.inl (by omega))
theorem fk_K {n : Nat} (c : Prop) [Decidable c] : Fk n (oK c) := fk_id fun s a t e => ifs_st e
theorem fk_Pz {n : Nat} (r : Nat) (k j : Int32) : Fk n (oPz r k j) := fk_id fun s x t e => ifs_st (x := ((), s)) e
theorem fk_AL {n : Nat} (a : Nat) (k i j : Int32) : Fk n (oAL a k i j) := fk_id fun s x t e => ifs_st (x := (gB s a i j, s)) e
theorem fk_SL {n : Nat} {a : Nat} {k i j : Int32} {x : Int64} : Fk n (oSL a k i j x) := fun s y t e => by
  rw [ifs_st (x := ((), sB s a i j x)) e]
  rfl
theorem fk_E {n : Nat} {α β γ : Type} {f : α → M γ} {g : β → M γ} (hf : ∀ a, Fk n (f a)) (hg : ∀ c, Fk n (g c)) (y : α ⊕ β) : Fk n (Sum.elim f g y) := by
  rcases y with y | y
  · exact hf y
  · exact hg y
theorem fk_boot {k : Nat} (hk : k = 12943 ∨ k = 12944) (n : Nat × Nat) : Fk k (M_Ma_boot n) := by
  have hk' : k < 14208 := by omega
  have ic2 : ∀ x, Fk k (M_Ma_internConstants_L2 x) := fun x => by
    unfold M_Ma_internConstants_L2
    exact fk_B (fk_GI _ _) fun _ => fk_C (fk_R _) (fk_B (fk_AI _ _ _ _) fun _ => fk_C (fk_B (fk_AL _ _ _ _) fun _ => fk_B ((zk_He_intern _ _ _ _ _).f43 hk') fun _ => fk_C (fk_B (fk_Pz _ _ _) fun _ => fk_B (fk_PI (by omega)) fun _ => fk_B fk_SL fun _ => (zk_Ma_internConstants_j96 _ _).f43 hk') (fk_R _)) ((zk_Ma_internConstants_j96 _ _).f43 hk'))
  have ic : ∀ n, Fk k (M_Ma_internConstants n) := fun n => by
    unfold M_Ma_internConstants
    exact fk_B (fk_W ic2 _) fun e => fk_E (fun _ => fk_R _) (fun _ => fk_R _) e
  unfold M_Ma_boot
  exact fk_B (zk_He_restart.f43 hk') fun _ => fk_B (zk_Ta_restart.f43 hk') fun _ => fk_B (fk_PI (by omega)) fun _ => fk_B ((zk_Ro_clear _ _ (by omega)).f43 hk') fun _ => fk_B ((zk_Ro_clear _ _ (by omega)).f43 hk') fun _ => fk_B ((zk_Ro_clear _ _ (by omega)).f43 hk') fun _ => fk_B ((zk_Ro_clear _ _ (by omega)).f43 hk') fun _ => fk_B (fk_PI (by omega)) fun _ => fk_B (fk_PI (by omega)) fun _ => fk_B (fk_PI (by omega)) fun _ => fk_B ((zk_Ta_make _).f43 hk') fun _ => fk_B (fk_PI (by omega)) fun _ => fk_B (fk_GI _ _) fun _ => fk_C (fk_R _) (fk_B ((zk_Ma_internNames _ _ _).f43 hk') fun _ => fk_C (fk_R _) (fk_B ((zk_Ma_internNames _ _ _).f43 hk') fun _ => fk_C (fk_R _) (fk_B ((zk_Ma_internNames _ _ _).f43 hk') fun _ => fk_C (fk_R _) (fk_B (fk_GI _ _) fun _ => fk_B ((zk_He_makeClosedVariable _ _ _).f43 hk') fun _ => fk_C ((zk_Ma_boot_j161 _).f43 hk') (fk_B (ic _) fun _ => fk_C ((zk_Ma_boot_j161 _).f43 hk') (fk_B (zk_Ma_fillGlobals.f43 hk') fun _ => fk_C ((zk_Ma_boot_j161 _).f43 hk') (fk_B ((zk_Ma_beginMain _ _).f43 hk') fun _ => fk_C ((zk_Ma_boot_j161 _).f43 hk') (fk_R _))))))))
theorem load2 {s t : S1} {n m : Nat × Nat} (h : Fz s n) (hl : gI s 12800 0 = gI t 1 0) (tp : ∀ j : Int32, 0 ≤ j.toInt → j.toInt < (gI s 12800 0).toInt → gA s 108 0 j = gA t 41 0 j) : hu (X_load n) s (fun _ s' => hu (M_Mo_load_ m) t (fun _ t' => gI s' 12943 0 = gI t' 3 0 ∧ gI s' 12944 0 = gI t' 4 0)) := by
  have e0 : (0 : Int32).toInt = 0 := rfl
  -- the class's state as the reading begins
  have b1 : Be s (sI (sI s 12800 0 0) 12801 0 0) := ⟨fun f j q => by rw [gI_sI, if_neg (fun z => by omega), gI_sI, if_neg (fun z => by omega)], fun _ _ _ => rfl, fun _ _ _ _ => rfl, fun _ _ _ _ => rfl⟩
  have lm1 : lmR (sI (sI s 12800 0 0) 12801 0 0) := by
    unfold lmR
    rw [gI_sI, if_neg (fun z => absurd z.1 (by decide)), gI_sI, if_neg (fun z => absurd z.1 (by decide))]
    exact h.lm
  have bz1 := b1.bz lm1 h.2.1
  have A1 : ∀ a i j, gA (sI (sI s 12800 0 0) 12801 0 0) a i j = gA s a i j := fun _ _ _ => rfl
  -- what comes behind the reading in both
  have last : ∀ {S T : S1} {v : (Int32 ⊕ Int32) × (Nat × Nat)}, gI S 12943 0 = gI T 3 0 → gI S 12944 0 = gI T 4 0 → hu (M_Mo_load__j100 m) T (fun _ t' => gI S 12943 0 = gI t' 3 0 ∧ gI S 12944 0 = gI t' 4 0) := fun {S T v} a b w t' E => by
    have z := w5_Mo_load__j100 m T w t' E
    exact ⟨by rw [z.1 3 (.inl rfl)]; exact a, by rw [z.1 4 (.inr rfl)]; exact b⟩
  unfold X_load M_Mo_load_
  refine r_PI (r_GI (r_PI (r_PI (r_PI (r_PI (r_PI (r_PI (r_PI (r_PI (r_PI ?_))))))))))
  rw [hu_B, hu_GI, hu_B, hu_PI, hu_B, hu_PI, hu_B]
  generalize hT : sI (sI (sI (sI (sI (sI (sI (sI (sI (sI t 2 0 0) 5 0 0) 3 0 0) 4 0 (-1)) 28 0 0) 23 0 0) 24 0 0) 25 0 0) 26 0 0) 27 0 0 = T
  have TI : ∀ f i, f ≠ 2 → f ≠ 5 → f ≠ 3 → f ≠ 4 → f ≠ 28 → f ≠ 23 → f ≠ 24 → f ≠ 25 → f ≠ 26 → f ≠ 27 → gI T f i = gI t f i := fun f i a1 a2 a3 a4 a5 a6 a7 a8 a9 a10 => by
    rw [← hT, gI_sI, if_neg (fun z => a10 z.1), gI_sI, if_neg (fun z => a9 z.1), gI_sI, if_neg (fun z => a8 z.1), gI_sI, if_neg (fun z => a7 z.1), gI_sI, if_neg (fun z => a6 z.1), gI_sI, if_neg (fun z => a5 z.1), gI_sI, if_neg (fun z => a4 z.1), gI_sI, if_neg (fun z => a3 z.1), gI_sI, if_neg (fun z => a2 z.1), gI_sI, if_neg (fun z => a1 z.1)]
  have TA : ∀ a i j, gA T a i j = gA t a i j := fun a i j => by rw [← hT]; rfl
  have T0 : gI T 3 0 = 0 ∧ gI T 4 0 = -1 ∧ gI T 28 0 = 0 ∧ gI T 23 0 = 0 ∧ gI T 25 0 = 0 ∧ gI T 26 0 = 0 := by
    rw [← hT]
    refine ⟨?_, ?_, ?_, ?_, ?_, ?_⟩ <;> simp only [gI_sI] <;> simp
  generalize sI (sI s 12800 0 0) 12801 0 0 = s1 at *
  intro r s2 E1
  have rq := (readAll_ok bz1 h.1).det r s2 E1
  -- the reading
  have rd : ∀ (REST : M (Int32 × (Nat × Nat))) (Q : Int32 × (Nat × Nat) → S1 → Prop), rdG REST Q r s2 → hu (oB (M_Mo_proto 25 (-1) 1) fun _ => rAf REST) T Q := by
    intro REST Q g
    have w : hu (M_Ch_readAll n (gI s 12800 0)) s1 (fun r s' => hu (oB (M_Mo_proto 25 (-1) 1) fun _ => rAf REST) T (fun v t' => rdG REST Q r s' → Q v t')) := by
      unfold M_Ch_readAll M_Ch_begin
      simp only [oB_assoc, oB_R]
      rw [hu_B, hu_PI, hu_B, hu_PI, hu_B, hu_PI, hu_B, hu_PI, hu_B, hu_PI, hu_B, hu_PI, hu_B, hu_PI, hu_B, hu_PI]
      generalize hS : sI (sI (sI (sI (sI (sI (sI (sI s1 12941 0 (gI s 12800 0)) 12942 0 0) 12943 0 0) 12944 0 (-1)) 12937 0 0) 12938 0 0) 12939 0 0) 12940 0 0 = S
      have SA : ∀ a i j, gA S a i j = gA s a i j := fun a i j => by rw [← hS]; exact A1 a i j
      have S0 : gI S 12941 0 = gI s 12800 0 ∧ gI S 12942 0 = 0 ∧ gI S 12943 0 = 0 ∧ gI S 12944 0 = -1 ∧ gI S 12937 0 = 0 ∧ gI S 12938 0 = 0 ∧ gI S 12939 0 = 0 := by
        rw [← hS]
        refine ⟨?_, ?_, ?_, ?_, ?_, ?_, ?_⟩ <;> simp only [gI_sI] <;> simp
      obtain ⟨a1, a2, a3, a4, a5, a6, a7⟩ := S0
      obtain ⟨c1, c2, c3, c4, c5, c6⟩ := T0
      have t1 : gI T 1 0 = gI t 1 0 := TI _ _ (by decide) (by decide) (by decide) (by decide) (by decide) (by decide) (by decide) (by decide) (by decide) (by decide)
      refine rd2 ⟨⟨by rw [a2, c3], by rw [a1, t1, hl], ?_, fun j j0 j1 => ?_, ⟨a3, by rw [a4, c2]⟩, c1⟩, ⟨by rw [a6, c5], by rw [a7, c6], ?_, ?_, ?_⟩, fun j j0 j1 => ?_, by rw [a5]; rfl, by rw [c4]; rfl, fun q hq => by omega⟩
      · unfold Ar rAt rLn
        rw [a2, a1, e0]
        exact ⟨Int.le_refl _, h.1.1, h.1.2⟩
      · unfold rLn at j1
        rw [a1] at j1
        rw [SA, TA]
        exact tp j j0 j1
      · unfold rC
        rw [a6]
        decide
      · unfold rK
        rw [a7]
        decide
      · unfold rC rK
        rw [a6, a7]
        decide
      · unfold rK at j1
        rw [a7, e0] at j1
        omega
    exact hu_mono (w r s2 E1) fun v t' q => q g
  rw [hu_C]
  refine ⟨fun z => ?_, fun z => ?_⟩
  · rw [hu_R]
    refine rd (M_Mo_load__j89 m) _ ⟨fun _ t' hf => ?_, fun y => absurd z y⟩
    unfold M_Mo_load__j89
    rw [hu_B, hu_GI, hu_C]
    exact ⟨fun y => absurd y hf.1, fun _ => last (v := (Sum.inl 3, r.2)) hf.2.1 hf.2.2⟩
  · rw [hu_B]
    intro v s3 E2
    -- the looking over
    have lu : ∀ (Q : Int32 × (Nat × Nat) → S1 → Prop), (v = 0 → ∀ t', Ff s3 t' → hu (M_Mo_load__j100 m) t' Q) → (v ≠ 0 → ∀ t', gI s3 12943 0 = gI t' 3 0 → gI s3 12944 0 = gI t' 4 0 → hu (M_Mo_load__j100 m) t' Q) → hu (oB (M_Mo_proto 25 (-1) 1) fun _ => rAf (M_Mo_load__j89 m)) T Q := fun Q g0 g1 => by
      refine rd (M_Mo_load__j89 m) Q ⟨fun y => absurd y z, fun _ t' N hN ra => ?_⟩
      unfold M_Mo_load__j89
      rw [hu_B, hu_GI, hu_C]
      refine ⟨fun _ => ?_, fun y => absurd ra.1.2.2.2.2.2 y⟩
      rw [hu_B]
      refine hu_mono (look2 (rq.2.2 z) hN ra v s3 E2) fun _ t2 q => ?_
      by_cases v0 : v = 0
      · exact g0 v0 t2 (q.1 v0)
      · obtain ⟨q1, q2, lk⟩ := q.2 v0
        refine g1 v0 t2 ?_ ?_
        · rw [q1, ra.1.2.2.2.2.1.1, lk.1 3 0 (by decide) (by decide), ra.1.2.2.2.2.2]
        · rw [q2, ra.1.2.2.2.2.1.2, lk.1 4 0 (by decide) (by decide)]
    rw [hu_C]
    refine ⟨fun v0 => ?_, fun v0 => ?_⟩
    · rw [hu_R]
      exact lu _ (fun _ t' hf => last (v := (Sum.inl 3, r.2)) hf.2.1 hf.2.2) (fun y => absurd v0 y)
    · have fk : ∀ k, (k = 12943 ∨ k = 12944) → Fk k (oB (oPI 16641 0 0) fun _ => oB (M_Ma_boot r.2) fun v56 => oC (v56.1 = 0) (oR ((Sum.inl 1, v56.2) : (Int32 ⊕ Int32) × (Nat × Nat))) (oB (oPI 12801 0 1) fun _ => oB (oGI 12937 0) fun v79 => oR (Sum.inr v79, v56.2))) := fun k hk => fk_B (fk_PI (by omega)) fun _ => fk_B (fk_boot hk _) fun _ => fk_C (fk_R _) (fk_B (fk_PI (by omega)) fun _ => fk_B (fk_GI _ _) fun _ => fk_R _)
      intro v4 s4 E4
      have f3 := fk 12943 (.inl rfl) s3 v4 s4 E4
      have f4 := fk 12944 (.inr rfl) s3 v4 s4 E4
      exact lu _ (fun y => absurd y v0) (fun _ t' a b => last (v := v4) (by rw [f3]; exact a) (by rw [f4]; exact b))
