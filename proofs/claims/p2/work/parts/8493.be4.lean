/-! The beginning, from the first to the last. -/
theorem GG.glob {s : S1} {v : Int32} (h : GG s) (hz : f_noCollection s ≠ 0) : GG (sI s 74 0 v) := by
  obtain ⟨hm, hnm, he, hr, htc⟩ := h
  have lw : ∀ m y k, Lv m (sI s 74 0 v) y k ↔ Lv m s y k := fun m y k => by
    unfold Lv
    simp only [f_used, a_sort, a_marked, gI_sI, gI_sL, gI_sA, gI_sB, gI_sAf, gI_sBf, gL_sI, gL_sL, gL_sA, gL_sB, gL_sAf, gL_sBf, gA_sI, gA_sL, gA_sA, gA_sB, gA_sAf, gA_sBf, gB_sI, gB_sL, gB_sA, gB_sB, gB_sAf, gB_sBf, Nat.reduceEqDiff, Nat.reduceMul, Nat.reduceAdd, false_and, true_and, and_true, and_false, if_true, if_false]
  have lv : ∀ m k w, Vl m (sI s 74 0 v) k w ↔ Vl m s k w := fun m k w => by
    unfold Vl
    simp only [lw]
  have ll : ∀ m k w, Wl m (sI s 74 0 v) k w ↔ Wl m s k w := fun m k w => by
    unfold Wl
    simp only [lw, lv]
  have eI : ∀ f i, f ≠ 74 → gI (sI s 74 0 v) f i = gI s f i := fun f i q => by simp only [gI_sI, gI_sL, gI_sA, gI_sB, gI_sAf, gI_sBf, gL_sI, gL_sL, gL_sA, gL_sB, gL_sAf, gL_sBf, gA_sI, gA_sL, gA_sA, gA_sB, gA_sAf, gA_sBf, gB_sI, gB_sL, gB_sA, gB_sB, gB_sAf, gB_sBf, Nat.reduceEqDiff, Nat.reduceMul, Nat.reduceAdd, false_and, true_and, and_true, and_false, if_true, if_false, q]
  refine ⟨⟨hm.1.hs ⟨fun _ _ _ _ => rfl, fun _ _ _ _ => rfl, fun f i q => eI f i (by omega)⟩, fun z => ?_⟩, ?_, ?_, ?_, (PT.same (fun t => eI 3584 t (by decide)) (eI 39 0 (by decide))).2 htc⟩
  · simp only [f_noCollection, gI_sI, gI_sL, gI_sA, gI_sB, gI_sAf, gI_sBf, gL_sI, gL_sL, gL_sA, gL_sB, gL_sAf, gL_sBf, gA_sI, gA_sL, gA_sA, gA_sB, gA_sAf, gA_sBf, gB_sI, gB_sL, gB_sA, gB_sB, gB_sAf, gB_sBf, Nat.reduceEqDiff, Nat.reduceMul, Nat.reduceAdd, false_and, true_and, and_true, and_false, if_true, if_false] at z
    exact absurd z hz
  · unfold Nm at *
    simp only [f_entryTop, f_roomAll, f_textMade, f_textAll, f_made, f_madeAll, f_limit, f_used, a_sort, a_tag, a_second, gI_sI, gI_sL, gI_sA, gI_sB, gI_sAf, gI_sBf, gL_sI, gL_sL, gL_sA, gL_sB, gL_sAf, gL_sBf, gA_sI, gA_sL, gA_sA, gA_sB, gA_sAf, gA_sBf, gB_sI, gB_sL, gB_sA, gB_sB, gB_sAf, gB_sBf, Nat.reduceEqDiff, Nat.reduceMul, Nat.reduceAdd, false_and, true_and, and_true, and_false, if_true, if_false] at *
    exact hnm
  · unfold Ex q_Dj q_Rg Tch Fu at *
    simp only [f_used, f_protos, a_sort, a_first, a_second, a_third, a_bucket, a_follow, a_upvalues, gI_sI, gI_sL, gI_sA, gI_sB, gI_sAf, gI_sBf, gL_sI, gL_sL, gL_sA, gL_sB, gL_sAf, gL_sBf, gA_sI, gA_sL, gA_sA, gA_sB, gA_sAf, gA_sBf, gB_sI, gB_sL, gB_sA, gB_sB, gB_sAf, gB_sBf, Nat.reduceEqDiff, Nat.reduceMul, Nat.reduceAdd, false_and, true_and, and_true, and_false, if_true, if_false] at *
    exact he
  · unfold Rws RvV RwV at *
    simp only [lv, ll]
    simp only [v_hand_n, v_args_n, v_results_n, v_ended_n, f_errorKind, f_errorValue, f_calledKind, f_called, Nat.reduceMul, Nat.reduceAdd, gI_sI, gI_sL, gI_sA, gI_sB, gI_sAf, gI_sBf, gL_sI, gL_sL, gL_sA, gL_sB, gL_sAf, gL_sBf, gA_sI, gA_sL, gA_sA, gA_sB, gA_sAf, gA_sBf, gB_sI, gB_sL, gB_sA, gB_sB, gB_sAf, gB_sBf, Nat.reduceEqDiff, Nat.reduceMul, Nat.reduceAdd, false_and, true_and, and_true, and_false, if_true, if_false] at *
    exact hr
/-- how the beginning stands: s0 is the emptied machine -/
def BS (s0 z : S1) : Prop := GG z ∧ f_noCollection z = 1 ∧ v_hand_n z = 0 ∧ (∀ t, 0 ≤ t → t < 33 → t_place z t < 0) ∧ (∀ f i, fzI f = true → f ≠ 74 → gI z f i = gI s0 f i) ∧ (∀ a i j, fzA a = true → ¬ (82 ≤ a ∧ a ≤ 86) → a ≠ 77 → a ≠ 3 → gA z a i j = gA s0 a i j) ∧ (f_todo z = 0 ∨ f_todo z = 3 ∨ f_todo z = 4)
theorem BS.z {s0 z : S1} (h : BS s0 z) : f_noCollection z ≠ 0 := by
  rw [h.2.1]
  decide
theorem BS.td {z z' : S1} (h : f_todo z = 0 ∨ f_todo z = 3 ∨ f_todo z = 4) (k : Td z z') : f_todo z' = 0 ∨ f_todo z' = 3 ∨ f_todo z' = 4 := by
  rcases k with e | e
  · rw [e]
    exact h
  · exact Or.inr e
theorem BS.bq {s0 z z' : S1} {w : Nat} (h : BS s0 z) (k : Bq w z z') (hw : w = 3 ∨ (82 ≤ w ∧ w ≤ 86)) : BS s0 z' := by
  obtain ⟨h1, h2, h3, h4, h5, h6, h7⟩ := h
  obtain ⟨k1, k2, k3, k4, k5, k6, k7, k8, k9, k10, k11⟩ := k
  exact ⟨k1, k2.trans h2, k3.trans h3, fun t a b => k4 t (h4 t a b), fun f i q r => (k5 f i q).trans (h5 f i q r), fun a i j p q r u => (k6 a i j p (by omega) (by omega)).trans (h6 a i j p q r u), BS.td h7 k11⟩
theorem BS.nx {s0 z z' : S1} (h : BS s0 z) (nx : Nx z z') (hh : v_hand_n z' = 0) (hp : ∀ t, t_place z t < 0 → t_place z' t < 0) : BS s0 z' := by
  obtain ⟨h1, h2, h3, h4, h5, h6, h7⟩ := h
  exact ⟨nx.1, (nx.2.1.I 92 (by decide) 0).trans h2, hh, fun t a b => hp t (h4 t a b), fun f i q r => (nx.2.1.1 f i q).trans (h5 f i q r), fun a i j p q r u => (nx.2.1.2.2.1 a i j p).trans (h6 a i j p q r u), BS.td h7 nx.2.2.2.2.2⟩
/-- the machine after a beginning that failed: it is emptied again -/
def Bf (s0 z : S1) : Prop := GG z ∧ (∀ i, t_resumer z i = t_resumer s0 i ∨ t_resumer z i = -1)
theorem BS.f {s0 z : S1} (h : BS s0 z) : Bf s0 z := ⟨h.1, fun i => Or.inl (h.2.2.2.2.1 3590 i (by decide) (by decide))⟩
theorem q_Sv.bq {s s' : S1} (h : GG s) (hs : q_Sv s s') : Bq 86 s s' := by
  have lw : ∀ y k, Lv false s' y k ↔ Lv false s y k := fun y k => by
    unfold Lv
    simp only [f_used, a_sort, a_marked, hs.1, hs.A 58 (by decide), hs.A 59 (by decide)]
  refine ⟨h.sv hs, hs.1 92 0, hs.1 2050 0, fun t q => by rw [show t_place s' t = t_place s t from hs.1 3584 t]; exact q, fun f i _ => hs.1 f i, fun a i j p _ _ => hs.A a (fun e => by rw [e] at p; exact absurd p (by decide)) i j, fun a i j p _ => hs.B a (fun e => by rw [e] at p; exact absurd p (by decide)) i j, fun x k p q => ⟨(lw x k).mpr p, hs.A 63 (by decide) 0 x, hs.A 64 (by decide) 0 x⟩, fun x q => ⟨(lw x 4).mpr q.1, ?_⟩, hs.1 36 0, Or.inl (hs.1 73 0)⟩
  show gA s' 60 0 x ≠ 0
  rw [hs.A 60 (by decide)]
  exact q.2
/-- names are there -/
def Nam (z : S1) (w : Nat) (L : Int32) : Prop := ∀ i, 0 ≤ i → i < L → FL z (gA z w 0 i)
theorem Nam.bq {z z' : S1} {w v : Nat} {L : Int32} (h : Nam z w L) (k : Bq v z z') (hw : fzA w = true ∧ w ≠ v ∧ w ≠ 86) : Nam z' w L := fun i a b => by
  rw [k.2.2.2.2.2.1 w 0 i hw.1 hw.2.1 hw.2.2]
  exact k.2.2.2.2.2.2.2.2.1 _ (h i a b)
theorem Nam.nx {z z' : S1} {w : Nat} {L : Int32} (h : Nam z w L) (k : Nx z z') (hw : fzA w = true) : Nam z' w L := fun i a b => by
  rw [k.2.1.A w hw 0 i]
  exact k.2.2.2.2.1 _ (h i a b)
def Knm (z : S1) (n : Int32) : Prop := ∀ i, 0 ≤ i → i < n → Kc z i
theorem Knm.nx {z z' : S1} {n : Int32} (h : Knm z n) (k : Nx z z') : Knm z' n := fun i a b => by
  have w := h i a b
  unfold Kc at *
  simp only [v_constants_k, v_constants_v, k.2.1.A 2 (by decide), k.2.1.B 3 (by decide)]
  exact w.imp id fun q => ⟨q.1, q.2.1, q.2.2.1, k.2.2.2.2.1 _ q.2.2.2⟩
theorem Nx.cap {s : S1} {x : Int32} (h : GG s) : GG (sA s 77 0 0 x) ∧ (∀ y k, Lv false (sA s 77 0 0 x) y k ↔ Lv false s y k) ∧ (∀ y, FL (sA s 77 0 0 x) y ↔ FL s y) := by
  have lw : ∀ y k, Lv false (sA s 77 0 0 x) y k ↔ Lv false s y k := fun y k => by
    unfold Lv
    simp only [f_used, a_sort, a_marked, gI_sI, gI_sL, gI_sA, gI_sB, gI_sAf, gI_sBf, gL_sI, gL_sL, gL_sA, gL_sB, gL_sAf, gL_sBf, gA_sI, gA_sL, gA_sA, gA_sB, gA_sAf, gA_sBf, gB_sI, gB_sL, gB_sA, gB_sB, gB_sAf, gB_sBf, Nat.reduceEqDiff, Nat.reduceMul, Nat.reduceAdd, false_and, true_and, and_true, and_false, if_true, if_false]
  refine ⟨h.hx ((Hx0.refl s).sA (by decide)), lw, fun y => ?_⟩
  unfold FL
  rw [lw]
  simp only [a_fixed, gI_sI, gI_sL, gI_sA, gI_sB, gI_sAf, gI_sBf, gL_sI, gL_sL, gL_sA, gL_sB, gL_sAf, gL_sBf, gA_sI, gA_sL, gA_sA, gA_sB, gA_sAf, gA_sBf, gB_sI, gB_sL, gB_sA, gB_sB, gB_sAf, gB_sBf, Nat.reduceEqDiff, Nat.reduceMul, Nat.reduceAdd, false_and, true_and, and_true, and_false, if_true, if_false]
/-- the first thread is there: the program may run -/
theorem begin_ri {s0 z s1 y F : S1} {v : Int32} (hb : BS s0 z) (hp : Pg s0) (nt : Nt z s1 y F v 0) (h72 : f_current s0 = 0) (rk : ∃ ρ, Rk ρ s0) (hg : Lv false z (f_globals z) 5) (n2 : Nam z 82 22) (n3 : Nam z 83 7) (n4 : Nam z 84 4) (hk : Knm z (f_constCount s0)) : RI true (sI (sI (sI (sI (sI F 3585 0 1) 3589 0 1) 72 0 0) 92 0 0) 898 0 0) ∧ gI (sI (sI (sI (sI (sI F 3585 0 1) 3589 0 1) 72 0 0) 92 0 0) 898 0 0) 2050 0 = 0 ∧ (f_todo (sI (sI (sI (sI (sI F 3585 0 1) 3589 0 1) 72 0 0) 92 0 0) 898 0 0) = 0 ∨ f_todo (sI (sI (sI (sI (sI F 3585 0 1) 3589 0 1) 72 0 0) 92 0 0) 898 0 0) = 3 ∨ f_todo (sI (sI (sI (sI (sI F 3585 0 1) 3589 0 1) 72 0 0) 92 0 0) 898 0 0) = 4) ∧ ∀ x k, Lv false z x k → k ≠ 0 → k ≠ 8 → Lv false (sI (sI (sI (sI (sI F 3585 0 1) 3589 0 1) 72 0 0) 92 0 0) 898 0 0) x k ∧ a_first (sI (sI (sI (sI (sI F 3585 0 1) 3589 0 1) 72 0 0) 92 0 0) 898 0 0) x = a_first z x := by
  obtain ⟨g1, gc, kl, hM, hnm, hst, ht, hpl, ef, ft, ep, e85, e86, e87, e02, e39, -⟩ := nt
  obtain ⟨bg, bz, bh, bp, bI, bA, bt⟩ := hb
  obtain ⟨ρ, rk⟩ := rk
  have zz : f_noCollection z ≠ 0 := by
    rw [bz]
    decide
  have v0 : 0 ≤ v := hM.1.1
  have gF : GG F := by
    refine GG.mkt g1 hM hnm hst ht hpl ef ft ep e39 ⟨?_, ?_, ?_, fun f a b => ?_⟩ ⟨fun i a b => ?_, fun f a b => ?_, fun k a b => ?_⟩ e87
    · rw [e02]
      exact ⟨by decide, by decide⟩
    · rw [e86]
      exact ⟨by decide, by decide⟩
    · rw [e87]
      exact ⟨by decide, by decide⟩
    · rw [e86] at b
      exact absurd (Int32.lt_of_le_of_lt a b) Int32.lt_irrefl
    · rw [e02] at b
      exact absurd (Int32.lt_of_le_of_lt a b) (by decide)
    · rw [e86] at b
      exact absurd (Int32.lt_of_le_of_lt a b) Int32.lt_irrefl
    · rw [e87] at b
      exact absurd (Int32.lt_of_le_of_lt a b) Int32.lt_irrefl
  have fz1 := q_Fz.gcx gc.x
  have fz2 := q_Fz.mk2 hM
  have AF : ∀ a i j, fzA a = true → a ≠ 26 → gA F a i j = gA z a i j := fun a i j p q => (ft.A a q i j).trans ((fz2.2.2.1 a i j p).trans (fz1.2.2.1 a i j p))
  have BF : ∀ a i j, fzB a = true → a ≠ 27 → gB F a i j = gB z a i j := fun a i j p q => (ft.B a q i j).trans ((fz2.2.2.2 a i j p).trans (fz1.2.2.2 a i j p))
  have IF : ∀ f i, fzI f = true → (f ≠ 39 ∧ f ≠ 3584 ∧ f ≠ 3585 ∧ f ≠ 3586 ∧ f ≠ 3587 ∧ f ≠ 3588 ∧ f ≠ 3589 ∧ f ≠ 3202 ∧ f ≠ 3590) → gI F f i = gI z f i := fun f i p q => (ft.I f q i).trans ((fz2.1 f i p).trans (fz1.1 f i p))
  have RF : ∀ i, i ≠ 0 → t_resumer F i = t_resumer s0 i := fun i q => (ft.J q 3590 (by decide)).trans ((fz2.1 3590 i (by decide)).trans ((fz1.1 3590 i (by decide)).trans (bI 3590 i (by decide) (by decide))))
  have R0 : t_resumer F 0 = -1 := ft.2.2.2.2
  have PF : ∀ u, 0 ≤ u → u < 33 → u ≠ 0 → t_place F u < 0 := fun u a b q => by
    have e1 : t_place F u = t_place y u := ft.J q 3584 (by decide)
    have e2 : t_place y u = t_place s1 u := hM.I 3584 (by decide) u
    rw [e1, e2]
    rcases gc.x.pt.1 u with e | e
    · rw [e]
      exact bp u a b
    · rw [e]
      decide
  have LF : ∀ x k, Lv false z x k → k ≠ 0 → Lv false F x k := fun x k l q => (Lv.ft ft).mpr (((kl.2 zz).1 x k l).mk2 hM q)
  have FF : ∀ x, FL z x → FL F x := fun x l => by
    have q := (l.gcx gc.x).mk2 hM
    refine ⟨(Lv.ft ft).mpr q.1, ?_⟩
    show gA F 60 0 x ≠ 0
    rw [ft.A 60 (by decide)]
    exact q.2
  have lv7 : Lv false F v 7 := (Lv.ft ft).mpr ⟨hM.1.1, hM.1.2.1, by rw [hM.S, if_pos rfl], fun w => by cases w⟩
  have fst : ∀ x k, Lv false z x k → k ≠ 0 → k ≠ 8 → a_first F x = a_first z x := fun x k l q r => by
    have e1 : a_first F x = a_first y x := ft.A 62 (by decide) 0 x
    rw [e1, (hM.P (hM.ne ((kl.2 zz).1 x k l) q)).1]
    exact gc.2.2.2.2.1 x (by rw [l.2.2.1]; exact r)
  have nF : gI F 92 0 = 1 := (IF 92 0 (by decide) (by decide)).trans bz
  have hF : gI F 2050 0 = 0 := (ft.I 2050 (by decide) 0).trans ((hM.I 2050 (by decide) 0).trans ((gc.I 2050 (by decide) 0).trans bh))
  have tF : f_todo F = f_todo z := (ft.I 73 (by decide) 0).trans ((hM.I 73 (by decide) 0).trans (gc.I 73 (by decide) 0))
  have gl : gI F 74 0 = f_globals z := IF 74 0 (by decide) (by decide)
  clear fz1 fz2 hM hnm hst ft gc kl g1 e39 ef hpl
  -- the state's own writes
  have gF2 : GG (sI (sI F 3585 0 1) 3589 0 1) := gF.hx (((Hx0.refl F).sI (by decide)).sI (by decide))
  have ch0 : ∀ s' : S1, gI s' 72 0 = 0 → t_resumer s' 0 = -1 → ∀ n, chN s' n = if n = 0 then 0 else -1 := fun s' a b n => by
    induction n with
    | zero => exact a
    | succ n ih =>
      show (if chN s' n < 0 then -1 else t_resumer s' (chN s' n)) = _
      rw [ih, if_neg (Nat.succ_ne_zero n)]
      by_cases c : n = 0
      · rw [if_pos c, b, ite_self]
      · rw [if_neg c, if_pos (by decide)]
  have rk3 : ∀ s' : S1, (∀ i, t_resumer s' i = t_resumer F i) → Rk ρ s' := fun s' e t a b w => by
    rw [e] at w ⊢
    by_cases c : t = 0
    · rw [c] at w
      exact absurd R0 w
    · rw [RF t c] at w ⊢
      exact rk t a b w
  have gF3 : GG (sI (sI (sI F 3585 0 1) 3589 0 1) 72 0 0) := by
    have r3 : ∀ i, t_resumer (sI (sI (sI F 3585 0 1) 3589 0 1) 72 0 0) i = t_resumer F i := fun i => by simp only [t_resumer, gI_sI, gI_sL, gI_sA, gI_sB, gI_sAf, gI_sBf, gL_sI, gL_sL, gL_sA, gL_sB, gL_sAf, gL_sBf, gA_sI, gA_sL, gA_sA, gA_sB, gA_sAf, gA_sBf, gB_sI, gB_sL, gB_sA, gB_sB, gB_sAf, gB_sBf, Nat.reduceEqDiff, Nat.reduceMul, Nat.reduceAdd, false_and, true_and, and_true, and_false, if_true, if_false]
    have c3 := ch0 (sI (sI (sI F 3585 0 1) 3589 0 1) 72 0 0) (by simp only [gI_sI, gI_sL, gI_sA, gI_sB, gI_sAf, gI_sBf, gL_sI, gL_sL, gL_sA, gL_sB, gL_sAf, gL_sBf, gA_sI, gA_sL, gA_sA, gA_sB, gA_sAf, gA_sBf, gB_sI, gB_sL, gB_sA, gB_sB, gB_sAf, gB_sBf, Nat.reduceEqDiff, Nat.reduceMul, Nat.reduceAdd, false_and, true_and, and_true, and_false, if_true, if_false]) (by rw [r3]; exact R0)
    refine gF2.sw ⟨fun f i a _ _ _ _ => by simp only [gI_sI, gI_sL, gI_sA, gI_sB, gI_sAf, gI_sBf, gL_sI, gL_sL, gL_sA, gL_sB, gL_sAf, gL_sBf, gA_sI, gA_sL, gA_sA, gA_sB, gA_sAf, gA_sBf, gB_sI, gB_sL, gB_sA, gB_sB, gB_sAf, gB_sBf, Nat.reduceEqDiff, Nat.reduceMul, Nat.reduceAdd, false_and, true_and, and_true, and_false, if_true, if_false, a], fun _ _ => rfl, fun _ _ _ => rfl, fun _ _ _ => rfl, fun i => Or.inl (by simp only [gI_sI, gI_sL, gI_sA, gI_sB, gI_sAf, gI_sBf, gL_sI, gL_sL, gL_sA, gL_sB, gL_sAf, gL_sBf, gA_sI, gA_sL, gA_sA, gA_sB, gA_sAf, gA_sBf, gB_sI, gB_sL, gB_sA, gB_sB, gB_sAf, gB_sBf, Nat.reduceEqDiff, Nat.reduceMul, Nat.reduceAdd, false_and, true_and, and_true, and_false, if_true, if_false])⟩ ?_ ⟨ρ, rk3 _ r3⟩ fun n a => ?_
    · simp only [f_current, gI_sI, gI_sL, gI_sA, gI_sB, gI_sAf, gI_sBf, gL_sI, gL_sL, gL_sA, gL_sB, gL_sAf, gL_sBf, gA_sI, gA_sL, gA_sA, gA_sB, gA_sAf, gA_sBf, gB_sI, gB_sL, gB_sA, gB_sB, gB_sAf, gB_sBf, Nat.reduceEqDiff, Nat.reduceMul, Nat.reduceAdd, false_and, true_and, and_true, and_false, if_true, if_false]
      exact ⟨by decide, by decide⟩
    · rw [c3] at a ⊢
      by_cases c : n = 0
      · rw [if_pos c]
        simp only [t_place, gI_sI, gI_sL, gI_sA, gI_sB, gI_sAf, gI_sBf, gL_sI, gL_sL, gL_sA, gL_sB, gL_sAf, gL_sBf, gA_sI, gA_sL, gA_sA, gA_sB, gA_sAf, gA_sBf, gB_sI, gB_sL, gB_sA, gB_sB, gB_sAf, gB_sBf, Nat.reduceEqDiff, Nat.reduceMul, Nat.reduceAdd, false_and, true_and, and_true, and_false, if_true, if_false]
        have e : gI F 3584 0 = v := ep
        rw [e]
        exact v0
      · rw [if_neg c] at a
        exact absurd a (by decide)
  have lw3 : ∀ x k, Lv false (sI (sI (sI F 3585 0 1) 3589 0 1) 72 0 0) x k ↔ Lv false F x k := fun x k => by
    unfold Lv
    simp only [f_used, a_sort, a_marked, gI_sI, gI_sL, gI_sA, gI_sB, gI_sAf, gI_sBf, gL_sI, gL_sL, gL_sA, gL_sB, gL_sAf, gL_sBf, gA_sI, gA_sL, gA_sA, gA_sB, gA_sAf, gA_sBf, gB_sI, gB_sL, gB_sA, gB_sB, gB_sAf, gB_sBf, Nat.reduceEqDiff, Nat.reduceMul, Nat.reduceAdd, false_and, true_and, and_true, and_false, if_true, if_false]
  have gF4 : GG (sI (sI (sI (sI F 3585 0 1) 3589 0 1) 72 0 0) 92 0 0) := by
    have r3 : ∀ i, t_resumer (sI (sI (sI F 3585 0 1) 3589 0 1) 72 0 0) i = t_resumer F i := fun i => by simp only [t_resumer, gI_sI, gI_sL, gI_sA, gI_sB, gI_sAf, gI_sBf, gL_sI, gL_sL, gL_sA, gL_sB, gL_sAf, gL_sBf, gA_sI, gA_sL, gA_sA, gA_sB, gA_sAf, gA_sBf, gB_sI, gB_sL, gB_sA, gB_sB, gB_sAf, gB_sBf, Nat.reduceEqDiff, Nat.reduceMul, Nat.reduceAdd, false_and, true_and, and_true, and_false, if_true, if_false]
    have c3 := ch0 (sI (sI (sI F 3585 0 1) 3589 0 1) 72 0 0) (by simp only [gI_sI, gI_sL, gI_sA, gI_sB, gI_sAf, gI_sBf, gL_sI, gL_sL, gL_sA, gL_sB, gL_sAf, gL_sBf, gA_sI, gA_sL, gA_sA, gA_sB, gA_sAf, gA_sBf, gB_sI, gB_sL, gB_sA, gB_sB, gB_sAf, gB_sBf, Nat.reduceEqDiff, Nat.reduceMul, Nat.reduceAdd, false_and, true_and, and_true, and_false, if_true, if_false]) (by rw [r3]; exact R0)
    have p3 : t_place (sI (sI (sI F 3585 0 1) 3589 0 1) 72 0 0) 0 = v := by
      simp only [t_place, gI_sI, gI_sL, gI_sA, gI_sB, gI_sAf, gI_sBf, gL_sI, gL_sL, gL_sA, gL_sB, gL_sAf, gL_sBf, gA_sI, gA_sL, gA_sA, gA_sB, gA_sAf, gA_sBf, gB_sI, gB_sL, gB_sA, gB_sB, gB_sAf, gB_sBf, Nat.reduceEqDiff, Nat.reduceMul, Nat.reduceAdd, false_and, true_and, and_true, and_false, if_true, if_false]
      exact ep
    refine gF3.nocl ?_ ⟨ρ, rk3 _ r3⟩ ?_ ?_ fun n a => ?_
    · simp only [f_current, gI_sI, gI_sL, gI_sA, gI_sB, gI_sAf, gI_sBf, gL_sI, gL_sL, gL_sA, gL_sB, gL_sAf, gL_sBf, gA_sI, gA_sL, gA_sA, gA_sB, gA_sAf, gA_sBf, gB_sI, gB_sL, gB_sA, gB_sB, gB_sAf, gB_sBf, Nat.reduceEqDiff, Nat.reduceMul, Nat.reduceAdd, false_and, true_and, and_true, and_false, if_true, if_false]
      exact ⟨by decide, by decide⟩
    · rw [lw3]
      simp only [f_globals, gI_sI, gI_sL, gI_sA, gI_sB, gI_sAf, gI_sBf, gL_sI, gL_sL, gL_sA, gL_sB, gL_sAf, gL_sBf, gA_sI, gA_sL, gA_sA, gA_sB, gA_sAf, gA_sBf, gB_sI, gB_sL, gB_sA, gB_sB, gB_sAf, gB_sBf, Nat.reduceEqDiff, Nat.reduceMul, Nat.reduceAdd, false_and, true_and, and_true, and_false, if_true, if_false]
      rw [gl]
      exact LF _ _ hg (by decide)
    · rw [lw3, p3]
      exact lv7
    · rw [c3] at a ⊢
      by_cases c : n = 0
      · rw [if_pos c, lw3, p3]
        exact lv7
      · rw [if_neg c] at a
        exact absurd a (by decide)
  have gZ := (zero7 gF4).1
  have AZ : ∀ a i j, gA (sI (sI (sI (sI (sI F 3585 0 1) 3589 0 1) 72 0 0) 92 0 0) 898 0 0) a i j = gA F a i j := fun _ _ _ => rfl
  have BZ : ∀ a i j, gB (sI (sI (sI (sI (sI F 3585 0 1) 3589 0 1) 72 0 0) 92 0 0) 898 0 0) a i j = gB F a i j := fun _ _ _ => rfl
  have IZ : ∀ f i, f ≠ 3585 → f ≠ 3589 → f ≠ 72 → f ≠ 92 → f ≠ 898 → gI (sI (sI (sI (sI (sI F 3585 0 1) 3589 0 1) 72 0 0) 92 0 0) 898 0 0) f i = gI F f i := fun f i a b c d e => by simp only [gI_sI, gI_sL, gI_sA, gI_sB, gI_sAf, gI_sBf, gL_sI, gL_sL, gL_sA, gL_sB, gL_sAf, gL_sBf, gA_sI, gA_sL, gA_sA, gA_sB, gA_sAf, gA_sBf, gB_sI, gB_sL, gB_sA, gB_sB, gB_sAf, gB_sBf, Nat.reduceEqDiff, Nat.reduceMul, Nat.reduceAdd, false_and, true_and, and_true, and_false, if_true, if_false, a, b, c, d, e]
  have z72 : gI (sI (sI (sI (sI (sI F 3585 0 1) 3589 0 1) 72 0 0) 92 0 0) 898 0 0) 72 0 = 0 := by simp only [gI_sI, gI_sL, gI_sA, gI_sB, gI_sAf, gI_sBf, gL_sI, gL_sL, gL_sA, gL_sB, gL_sAf, gL_sBf, gA_sI, gA_sL, gA_sA, gA_sB, gA_sAf, gA_sBf, gB_sI, gB_sL, gB_sA, gB_sB, gB_sAf, gB_sBf, Nat.reduceEqDiff, Nat.reduceMul, Nat.reduceAdd, false_and, true_and, and_true, and_false, if_true, if_false]
  have z92 : gI (sI (sI (sI (sI (sI F 3585 0 1) 3589 0 1) 72 0 0) 92 0 0) 898 0 0) 92 0 = 0 := by simp only [gI_sI, gI_sL, gI_sA, gI_sB, gI_sAf, gI_sBf, gL_sI, gL_sL, gL_sA, gL_sB, gL_sAf, gL_sBf, gA_sI, gA_sL, gA_sA, gA_sB, gA_sAf, gA_sBf, gB_sI, gB_sL, gB_sA, gB_sB, gB_sAf, gB_sBf, Nat.reduceEqDiff, Nat.reduceMul, Nat.reduceAdd, false_and, true_and, and_true, and_false, if_true, if_false]
  have z85 : gI (sI (sI (sI (sI (sI F 3585 0 1) 3589 0 1) 72 0 0) 92 0 0) 898 0 0) 3585 0 = 1 := by simp only [gI_sI, gI_sL, gI_sA, gI_sB, gI_sAf, gI_sBf, gL_sI, gL_sL, gL_sA, gL_sB, gL_sAf, gL_sBf, gA_sI, gA_sL, gA_sA, gA_sB, gA_sAf, gA_sBf, gB_sI, gB_sL, gB_sA, gB_sB, gB_sAf, gB_sBf, Nat.reduceEqDiff, Nat.reduceMul, Nat.reduceAdd, false_and, true_and, and_true, and_false, if_true, if_false]
  have lwZ : ∀ x k, Lv false (sI (sI (sI (sI (sI F 3585 0 1) 3589 0 1) 72 0 0) 92 0 0) 898 0 0) x k ↔ Lv false F x k := fun x k => by
    unfold Lv
    simp only [f_used, a_sort, a_marked, gI_sI, gI_sL, gI_sA, gI_sB, gI_sAf, gI_sBf, gL_sI, gL_sL, gL_sA, gL_sB, gL_sAf, gL_sBf, gA_sI, gA_sL, gA_sA, gA_sB, gA_sAf, gA_sBf, gB_sI, gB_sL, gB_sA, gB_sB, gB_sAf, gB_sBf, Nat.reduceEqDiff, Nat.reduceMul, Nat.reduceAdd, false_and, true_and, and_true, and_false, if_true, if_false]
  generalize sI (sI (sI (sI (sI F 3585 0 1) 3589 0 1) 72 0 0) 92 0 0) 898 0 0 = Z at *
  have eP : ∀ u, t_place Z u = t_place F u := fun u => IZ 3584 u (by decide) (by decide) (by decide) (by decide) (by decide)
  have eR : ∀ u, t_resumer Z u = t_resumer F u := fun u => IZ 3590 u (by decide) (by decide) (by decide) (by decide) (by decide)
  have cZ := ch0 Z z72 (by rw [eR]; exact R0)
  have only : ∀ u, 0 ≤ u → u < 33 → 0 ≤ t_place Z u → u = 0 := fun u a b c => by
    rw [eP] at c
    by_cases q : u = 0
    · exact q
    · exact absurd (Int32.lt_of_le_of_lt c (PF u a b q)) Int32.lt_irrefl
  have FZ : ∀ x, FL z x → FL Z x := fun x l => by
    refine ⟨(lwZ x 4).mpr (FF x l).1, ?_⟩
    show gA Z 60 0 x ≠ 0
    rw [AZ]
    exact (FF x l).2
  have A0 : ∀ a i j, fzA a = true → ¬ (82 ≤ a ∧ a ≤ 86) → a ≠ 77 → a ≠ 3 → a ≠ 26 → gA Z a i j = gA s0 a i j := fun a i j p q r u w => (AZ a i j).trans ((AF a i j p w).trans (bA a i j p q r u))
  have I23 : gI Z 23 0 = gI s0 23 0 := (IZ 23 0 (by decide) (by decide) (by decide) (by decide) (by decide)).trans ((IF 23 0 (by decide) (by decide)).trans (bI 23 0 (by decide) (by decide)))
  have I25 : gI Z 25 0 = gI s0 25 0 := (IZ 25 0 (by decide) (by decide) (by decide) (by decide) (by decide)).trans ((IF 25 0 (by decide) (by decide)).trans (bI 25 0 (by decide) (by decide)))
  refine ⟨⟨gZ, z92, ?_, ?_, ?_, fun t a b c f d e => ?_⟩, ?_, ?_, fun x k l q r => ⟨(lwZ x k).mpr (LF x k l q), (AZ 62 0 x).trans (fst x k l q r)⟩⟩
  · unfold Pg Pp Wf Wn Gs Rr Rq at *
    simp only [wd, f_protos, f_constCount, a_params, a_registers, a_upvalues, a_upAt, a_constAt, a_consts, a_codeAt, a_codes, a_childAt, a_children, a_child, a_ups, a_code, I23, I25, A0 42 _ _ (by decide) (by decide) (by decide) (by decide) (by decide), A0 43 _ _ (by decide) (by decide) (by decide) (by decide) (by decide), A0 44 _ _ (by decide) (by decide) (by decide) (by decide) (by decide), A0 45 _ _ (by decide) (by decide) (by decide) (by decide) (by decide), A0 46 _ _ (by decide) (by decide) (by decide) (by decide) (by decide), A0 47 _ _ (by decide) (by decide) (by decide) (by decide) (by decide), A0 48 _ _ (by decide) (by decide) (by decide) (by decide) (by decide), A0 49 _ _ (by decide) (by decide) (by decide) (by decide) (by decide), A0 50 _ _ (by decide) (by decide) (by decide) (by decide) (by decide), A0 51 _ _ (by decide) (by decide) (by decide) (by decide) (by decide), A0 52 _ _ (by decide) (by decide) (by decide) (by decide) (by decide), A0 53 _ _ (by decide) (by decide) (by decide) (by decide) (by decide), A0 54 _ _ (by decide) (by decide) (by decide) (by decide) (by decide), A0 55 _ _ (by decide) (by decide) (by decide) (by decide) (by decide)] at *
    exact hp
  · refine ⟨fun i a b => ?_, fun i a b => ?_, fun i a b => ?_, fun i a b => ?_⟩
    · show FL Z (gA Z 82 0 i)
      rw [AZ, AF 82 0 i (by decide) (by decide)]
      exact FZ _ (n2 i a b)
    · show FL Z (gA Z 83 0 i)
      rw [AZ, AF 83 0 i (by decide) (by decide)]
      exact FZ _ (n3 i a b)
    · show FL Z (gA Z 84 0 i)
      rw [AZ, AF 84 0 i (by decide) (by decide)]
      exact FZ _ (n4 i a b)
    · have b' : i < gI Z 25 0 := b
      rw [I25] at b'
      have w := hk i a b'
      unfold Kc at *
      simp only [v_constants_k, v_constants_v, AZ, BZ, AF 2 _ _ (by decide) (by decide), BF 3 _ _ (by decide) (by decide)]
      exact w.imp id fun q => ⟨q.1, q.2.1, q.2.2.1, FZ _ q.2.2.2⟩
  · have c0 : f_current Z = 0 := z72
    refine ⟨by rw [c0]; exact ⟨by decide, by decide⟩, by rw [c0]; exact z85, fun u a b c d => ?_, fun n a b => ?_, fun u a b c d => ⟨0, by rw [cZ, if_pos rfl, only u a b c]⟩, fun n a b => ?_, by rw [eR]; exact R0, ?_, fun n a => ?_, fun u a b c => ?_, fun u a b c d => absurd (only u a b c) d⟩
    · rw [only u a b c, eR] at d
      exact absurd R0 d
    · rw [cZ, if_neg (Nat.pos_iff_ne_zero.mp a)] at b
      exact absurd b (by decide)
    · rw [cZ] at a b
      by_cases q : n = 0
      · rw [if_pos q] at b
        exact absurd rfl b
      · rw [if_neg q] at a
        exact absurd a (by decide)
    · rw [eP]
      have e : t_place F 0 = v := ep
      rw [e]
      exact v0
    · rw [cZ] at a ⊢
      by_cases q : n = 0
      · rw [if_pos q, eP]
        have e : t_place F 0 = v := ep
        rw [e]
        exact v0
      · rw [if_neg q] at a
        exact absurd a (by decide)
    · rw [only u a b c]
      have e : t_state Z 0 = 1 := z85
      rw [e]
      exact ⟨by decide, by decide⟩
  · have e0 := only t a b c
    rw [e0] at e
    have ef : t_frames Z 0 = 0 := (IZ 3586 0 (by decide) (by decide) (by decide) (by decide) (by decide)).trans e86
    rw [ef] at e
    exact absurd (Int32.lt_of_le_of_lt d e) Int32.lt_irrefl
  · rw [IZ 2050 0 (by decide) (by decide) (by decide) (by decide) (by decide)]
    exact hF
  · have e : f_todo Z = f_todo z := (IZ 73 0 (by decide) (by decide) (by decide) (by decide) (by decide)).trans tF
    rw [e]
    exact bt
