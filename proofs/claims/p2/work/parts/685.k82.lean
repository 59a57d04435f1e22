/-! The class: what the turns do to the number. -/
def hu {α : Type} (f : M α) (s : S1) (Q : α → S1 → Prop) : Prop := ∀ a t, f s = some (a, t) → Q a t
theorem hu_mono {α : Type} {f : M α} {s : S1} {P Q : α → S1 → Prop} (h : hu f s P) (k : ∀ a t, P a t → Q a t) : hu f s Q := fun a t e => k a t (h a t e)
theorem ok.det {α : Type} {f : M α} {s : S1} {P : α → S1 → Prop} (h : ok f s P) : hu f s P := fun a t e => by
  obtain ⟨b, u, e', q⟩ := ok_out h
  rw [e] at e'
  cases e'
  exact q
theorem ok.wh {α : Type} {f : M α} {s : S1} {P Q : α → S1 → Prop} (h : ok f s P) (k : hu f s Q) : ok f s (fun a t => P a t ∧ Q a t) := by
  obtain ⟨b, u, e, q⟩ := ok_out h
  exact ok_in e ⟨q, k b u e⟩
theorem Kok.h {c u : Bool} {α : Type} {f : M α} (h : Kok c u f) (s : S1) : hu f s (fun _ t => Kor c u s t) := fun a t e => h s a t e
theorem hu_some {α : Type} {f : M α} {s : S1} {a : α} {t : S1} (h : f s = some (a, t)) (Q : α → S1 → Prop) : hu f s Q ↔ Q a t := by
  refine ⟨fun k => k a t h, fun q b u e => ?_⟩
  rw [h] at e
  cases e
  exact q
theorem hu_ifs {α : Type} {f : M α} {s : S1} {c : Prop} [Decidable c] {a : α} {t : S1} (h : f s = if c then some (a, t) else none) (Q : α → S1 → Prop) : hu f s Q ↔ (c → Q a t) := by
  by_cases d : c
  · rw [if_pos d] at h
    rw [hu_some h]
    exact ⟨fun q _ => q, fun q => q d⟩
  · rw [if_neg d] at h
    refine ⟨fun _ z => absurd z d, fun _ b u e => ?_⟩
    rw [h] at e
    cases e
theorem hu_R {α : Type} (a : α) (s : S1) (Q : α → S1 → Prop) : hu (oR a) s Q ↔ Q a s := hu_some rfl Q
theorem hu_B {α β : Type} (f : M α) (g : α → M β) (s : S1) (Q : β → S1 → Prop) : hu (oB f g) s Q ↔ hu f s (fun a t => hu (g a) t Q) := by
  constructor
  · intro h a t e b u e'
    refine h b u ?_
    unfold oB
    rw [e]
    exact e'
  · intro h b u e
    unfold oB at e
    cases k : f s with
    | none => rw [k] at e; cases e
    | some q =>
      rw [k] at e
      exact h q.1 q.2 k b u e
theorem hu_L {α β : Type} (x : α) (g : α → M β) (s : S1) (Q : β → S1 → Prop) : hu (oL x g) s Q ↔ hu (g x) s Q := Iff.rfl
theorem hu_C {α : Type} (c : Prop) [Decidable c] (f g : M α) (s : S1) (Q : α → S1 → Prop) : hu (oC c f g) s Q ↔ (c → hu f s Q) ∧ (¬ c → hu g s Q) := by
  by_cases d : c
  · have e : oC c f g s = f s := if_pos d
    unfold hu
    rw [e]
    exact ⟨fun q => ⟨fun _ => q, fun n => absurd d n⟩, fun q => q.1 d⟩
  · have e : oC c f g s = g s := if_neg d
    unfold hu
    rw [e]
    exact ⟨fun q => ⟨fun n => absurd n d, fun _ => q⟩, fun q => q.2 d⟩
theorem hu_K (c : Prop) [Decidable c] (s : S1) (Q : Unit → S1 → Prop) : hu (oK c) s Q ↔ (c → Q () s) := hu_ifs rfl Q
theorem hu_GI (f : Nat) (i : Int32) (s : S1) (Q : Int32 → S1 → Prop) : hu (oGI f i) s Q ↔ Q (gI s f i) s := hu_some rfl Q
theorem hu_GL (f : Nat) (i : Int32) (s : S1) (Q : Int64 → S1 → Prop) : hu (oGL f i) s Q ↔ Q (gL s f i) s := hu_some rfl Q
theorem hu_PI (f : Nat) (i x : Int32) (s : S1) (Q : Unit → S1 → Prop) : hu (oPI f i x) s Q ↔ Q () (sI s f i x) := hu_some rfl Q
theorem hu_PL (f : Nat) (i : Int32) (x : Int64) (s : S1) (Q : Unit → S1 → Prop) : hu (oPL f i x) s Q ↔ Q () (sL s f i x) := hu_some rfl Q
theorem hu_Pr (r : Nat) (i : Int32) (s : S1) (Q : Unit → S1 → Prop) : hu (oPr r i) s Q ↔ (((dyF r = true → gI s (128 * r + 127) i = 1) ∧ 0 ≤ i ∧ i.toNatClampNeg < cnF r) → Q () s) := hu_ifs rfl Q
theorem hu_Pz (t : Nat) (n j : Int32) (s : S1) (Q : Unit → S1 → Prop) : hu (oPz t n j) s Q ↔ (((0 ≤ j ∧ j < n) ∧ (gI s (128 * t + 127) j = 1 ∧ 0 ≤ j ∧ j.toNatClampNeg < cnF t)) → Q () s) := hu_ifs rfl Q
theorem hu_W {σ ρ : Type} {body : σ → M (σ ⊕ ρ)} (I : σ → S1 → Prop) {Q : ρ → S1 → Prop} (hb : ∀ x s, I x s → hu (body x) s (fun y s' => Sum.elim (fun z => I z s') (fun e => Q e s') y)) : ∀ x s, I x s → hu (oW body x) s Q := by
  intro x s hx a s' h
  obtain ⟨n, hn⟩ := oW_n body x s (a, s') h
  clear h
  induction n generalizing x s with
  | zero => cases hn
  | succ n ih =>
    cases hc : body x s with
    | none => simp only [oWn, hc] at hn; cases hn
    | some p =>
      obtain ⟨y, s2⟩ := p
      have w := hb x s hx y s2 hc
      cases y with
      | inl y =>
        simp only [oWn, hc] at hn
        exact ih y s2 w hn
      | inr e =>
        simp only [oWn, hc] at hn
        cases hn
        exact w
theorem Kor.kct {c u : Bool} {x k : Int32} {s t w : S1} (h : Kor c u s t) (q : Kct x k t w) : Kct x k s w := by
  obtain ⟨h1, h2, h3, h4, -, -⟩ := h
  obtain ⟨q1, q2, q3, q4, q5, q6⟩ := q
  refine ⟨fun f i a b => (q1 f i a b).trans (h1 f i a), fun i a => (q2 i a).trans (h1 _ _ (by unfold foI; decide)), q3, fun i j => (q4 i j).trans (h2 i j), fun i => ?_, fun i => ?_⟩
  · rcases q5 i with z | z
    · rw [z]
      exact h3 i
    · exact .inr z
  · rcases q6 i with z | z
    · rw [z]
      exact h4 i
    · exact .inr z
theorem Kct.kor {c u : Bool} {x k : Int32} {s t w : S1} (q : Kct x k s t) (h : Kor c u t w) : Kct x k s w := by
  obtain ⟨h1, h2, h3, h4, -, -⟩ := h
  obtain ⟨q1, q2, q3, q4, q5, q6⟩ := q
  refine ⟨fun f i a b => (h1 f i a).trans (q1 f i a b), fun i a => (h1 18948 i (by unfold foI; decide)).trans (q2 i a), (h1 18948 x (by unfold foI; decide)).trans q3, fun i j => (h2 i j).trans (q4 i j), fun i => ?_, fun i => ?_⟩
  · rcases h3 i with z | z
    · rw [z]
      exact q5 i
    · exact .inr z
  · rcases h4 i with z | z
    · rw [z]
      exact q6 i
    · exact .inr z
theorem pop_hu (c : Int32) (s : S1) : hu (M_Co_pop c) s (fun _ t => Kct c (oD s c - 1) s t) := by
  simp only [M_Co_pop, hu_B, hu_GI, hu_PI, hu_K, hu_R]
  intro _
  generalize gI (sI s 18948 c (gI s 18948 c - 1)) 19459 _ = v
  have g : ∀ f i, f ≠ 18948 ∧ f ≠ 18949 → gI (sI (sI s 18948 c (gI s 18948 c - 1)) 18949 c v) f i = gI s f i := fun f i q => by rw [gI_sI, if_neg (fun z => q.2 z.1), gI_sI, if_neg (fun z => q.1 z.1)]
  refine ⟨fun f i a b => g f i (by unfold foI at a; omega), fun i a => ?_, ?_, fun _ _ => rfl, fun i => .inl (g _ _ (by decide)), fun i => .inl (g _ _ (by decide))⟩
  · show gI _ 18948 i = _
    rw [gI_sI, if_neg (fun z => absurd z.1 (by decide)), gI_sI, if_neg (fun z => a z.2)]
  · show gI _ 18948 c = _
    rw [gI_sI, if_neg (fun z => absurd z.1 (by decide)), gI_sI, if_pos ⟨rfl, rfl⟩]
/-- a frame less -/
theorem Kct.pop {x : Int32} {s t : S1} {n : Nat × Nat} (W : cW s n) (av : cAv s x) (d1 : 1 ≤ (oD s x).toInt) (h : Kct x (oD s x - 1) s t) : Om t + 4 ≤ Om s := by
  have e1 : (1 : Int32).toInt = 1 := rfl
  have d := (W.hi.dep av).2.1
  have e : (oD s x - 1).toInt = (oD s x).toInt - 1 := by rw [ktI_sub] <;> omega
  exact h.oM av.1.1 ⟨av.1.2, av.2⟩ (by omega) (by omega)
theorem backRes_hu {s : S1} {n : Nat × Nat} {l : Int32} (W : cW s n) (F : qFr true s) (hr : 0 ≤ oRs s (mCur s)) : hu (M_Ma_backToResumer l) s (fun _ t => Om t + 4 ≤ Om s) := by
  obtain ⟨av, -, -, d1, -⟩ := res_of W F hr
  simp only [M_Ma_backToResumer, M_Co_top, hu_B, hu_GI, hu_PI, hu_K, hu_R, hu_Pr, hu_Pz]
  intro _ _ _ _ _ _ _
  have ec : gI (sI (sI (sI (sI s 16395 0 (gI s 18955 (gI s 16395 0))) 18951 (gI s 16395 0) l) 18955 (gI s 16395 0) (-1)) 18951 (gI (sI (sI (sI s 16395 0 (gI s 18955 (gI s 16395 0))) 18951 (gI s 16395 0) l) 18955 (gI s 16395 0) (-1)) 16395 0) 1) 16395 0 = oRs s (mCur s) := by
    rw [gI_sI, if_neg (fun z => absurd z.1 (by decide)), gI_sI, if_neg (fun z => absurd z.1 (by decide)), gI_sI, if_neg (fun z => absurd z.1 (by decide)), gI_sI, if_pos ⟨rfl, rfl⟩]
  rw [ec]
  have g : ∀ f i, f ≠ 16395 ∧ f ≠ 18951 ∧ f ≠ 18955 → gI (sI (sI (sI (sI s 16395 0 (gI s 18955 (gI s 16395 0))) 18951 (gI s 16395 0) l) 18955 (gI s 16395 0) (-1)) 18951 (gI (sI (sI (sI s 16395 0 (gI s 18955 (gI s 16395 0))) 18951 (gI s 16395 0) l) 18955 (gI s 16395 0) (-1)) 16395 0) 1) f i = gI s f i := fun f i q => by
    rw [gI_sI, if_neg (fun z => q.2.1 z.1), gI_sI, if_neg (fun z => q.2.2 z.1), gI_sI, if_neg (fun z => q.2.1 z.1), gI_sI, if_neg (fun z => q.1 z.1)]
  have r : (sI (sI (sI (sI s 16395 0 (gI s 18955 (gI s 16395 0))) 18951 (gI s 16395 0) l) 18955 (gI s 16395 0) (-1)) 18951 (gI (sI (sI (sI s 16395 0 (gI s 18955 (gI s 16395 0))) 18951 (gI s 16395 0) l) 18955 (gI s 16395 0) (-1)) 16395 0) 1).2 = s.2 := rfl
  generalize sI (sI (sI (sI s 16395 0 (gI s 18955 (gI s 16395 0))) 18951 (gI s 16395 0) l) 18955 (gI s 16395 0) (-1)) 18951 (gI (sI (sI (sI s 16395 0 (gI s 18955 (gI s 16395 0))) 18951 (gI s 16395 0) l) 18955 (gI s 16395 0) (-1)) 16395 0) 1 = w at g r ⊢
  have k : Kor false true s w := ⟨fun f i q => g f i (by unfold foI at q; omega), fun i j => by show w.2.2.1 _ _ _ = s.2.2.1 _ _ _; rw [r], fun i => .inl (g _ _ (by decide)), fun i => .inl (g _ _ (by decide)), fun z => (by cases z), fun _ => g _ _ (by decide)⟩
  refine hu_mono (pop_hu _ w) fun _ t q => ?_
  have q' := k.kct q
  rw [k.od] at q'
  exact q'.pop W av d1
theorem handOver_hu {s : S1} {n : Nat × Nat} {l : Int32} (W : cW s n) (F : qFr true s) (hr : 0 ≤ oRs s (mCur s)) : hu (M_Ma_handOver l) s (fun _ t => Om t + 4 ≤ Om s) := by
  simp only [M_Ma_handOver, hu_B, hu_C, hu_PI, hu_R]
  refine hu_mono (backRes_hu W F hr) fun v t q => ⟨fun _ => hu_mono (ko_Ma_giveWithTrue.h t) fun _ u k => ?_, fun _ => ?_⟩
  · have := k.oM
    omega
  · have k : Kor true false t (sI t 16396 0 3) := ko_PI5 t () _ rfl
    have := k.oM
    omega
theorem endErr_hu (s : S1) : hu M_Ma_endWithError s (fun _ t => gI t 16396 0 = 0) := by
  simp only [M_Ma_endWithError, hu_B, hu_GI, hu_GL, hu_PI, hu_R, hu_Pr]
  intro _ _ _ _ _ _ _
  rw [gI_sI, if_pos ⟨rfl, rfl⟩]
/-- how a turn that gives may end -/
def Dg (s t : S1) : Prop := gI t 16396 0 = 0 ∨ Om t + 4 ≤ Om s ∨ (gI t 16396 0 = 4 ∧ Om t ≤ Om s)
theorem give_hu {s : S1} {n : Nat × Nat} (h : St3 s n) : hu M_Ma_give_ s (fun _ t => Dg s t) := by
  obtain ⟨W, F, h1, t3, row⟩ := h
  have ac := W.cur
  have e0 : (0 : Int32).toInt = 0 := rfl
  simp only [M_Ma_give_, M_Ma_endWithResults, M_Co_top, hu_B, hu_C, hu_GI, hu_PI, hu_K, hu_R, hu_Pr]
  intro _
  refine ⟨fun _ _ => ⟨fun c => ?_, fun _ _ _ _ _ => ?_⟩, fun c _ _ _ => ⟨fun _ => ?_, fun _ => ⟨fun _ _ => ?_, fun _ _ => ?_⟩⟩⟩
  · refine hu_mono (handOver_hu W F c) fun _ t q => .inr (.inl q)
  · refine .inl ?_
    rw [gI_sI, if_pos ⟨rfl, rfl⟩]
  · have k : Kor true false s (sI s 16396 0 4) := ko_PI5 s () _ rfl
    exact .inr (.inr ⟨by rw [gI_sI, if_pos ⟨rfl, rfl⟩], k.oM⟩)
  · have d1 : 1 ≤ (oD s (mCur s)).toInt := by
      have := (W.hi.dep ac).2.1
      have : (oD s (mCur s)).toInt ≠ 0 := fun z => c (toInt_inj z)
      omega
    refine hu_mono (pop_hu _ s) fun _ t q => hu_mono (ko_Ma_giveWithTrue.h t) fun _ u k => .inr (.inl ?_)
    exact (q.kor k).pop W ac d1
  · have d1 : 1 ≤ (oD s (mCur s)).toInt := by
      have := (W.hi.dep ac).2.1
      have : (oD s (mCur s)).toInt ≠ 0 := fun z => c (toInt_inj z)
      omega
    refine hu_mono (pop_hu _ s) fun _ t q => hu_mono ((ko_Ro_kindAt 135 0 0).h t) fun _ u k => ⟨fun _ => hu_mono ((ko_Ro_valueAt 135 0 0).h u) fun _ v k2 => hu_mono ((ko_Ma_give 4 _).h v) fun _ w k3 => .inr (.inl ?_), fun _ => hu_mono ((ko_Ma_fail 3).h u) fun _ v k2 => .inr (.inl ?_)⟩
    · exact (((q.kor k).kor k2).kor k3).pop W ac d1
    · exact ((q.kor k).kor k2).pop W ac d1
theorem goOn_hu (c : Int32) (s : S1) : hu (M_Ma_goOnWith c) s (fun _ t => gI t 16396 0 = 1 → gI s 18952 c = 0 ∧ gI t 18952 c = 1 ∧ mCur t = c) := by
  simp only [M_Ma_goOnWith, M_Ma_begin, hu_B, hu_C, hu_GI, hu_GL, hu_PI, hu_PL, hu_R, hu_Pr]
  intro _ _
  refine ⟨fun b _ => ?_, fun _ _ _ _ z => ?_⟩
  · have b' : gI s 18952 c = 0 := by
      simp only [gI_sI, gI_sL, gI_sA, gI_sB, gI_sAf, gI_sBf, gL_sI, gL_sL, gL_sA, gL_sB, gL_sAf, gL_sBf, gA_sI, gA_sL, gA_sA, gA_sB, gA_sAf, gA_sBf, gB_sI, gB_sL, gB_sA, gB_sB, gB_sAf, gB_sBf, Nat.reduceEqDiff, Nat.reduceMul, Nat.reduceAdd, false_and, true_and, and_true, and_false, if_true, if_false] at b
      exact b
    refine ⟨b', ?_, ?_⟩
    · simp only [gI_sI, gI_sL, gI_sA, gI_sB, gI_sAf, gI_sBf, gL_sI, gL_sL, gL_sA, gL_sB, gL_sAf, gL_sBf, gA_sI, gA_sL, gA_sA, gA_sB, gA_sAf, gA_sBf, gB_sI, gB_sL, gB_sA, gB_sB, gB_sAf, gB_sBf, Nat.reduceEqDiff, Nat.reduceMul, Nat.reduceAdd, false_and, true_and, and_true, and_false, if_true, if_false]
    · show gI _ 16395 0 = c
      simp only [gI_sI, gI_sL, gI_sA, gI_sB, gI_sAf, gI_sBf, gL_sI, gL_sL, gL_sA, gL_sB, gL_sAf, gL_sBf, gA_sI, gA_sL, gA_sA, gA_sB, gA_sAf, gA_sBf, gB_sI, gB_sL, gB_sA, gB_sB, gB_sAf, gB_sBf, Nat.reduceEqDiff, Nat.reduceMul, Nat.reduceAdd, false_and, true_and, and_true, and_false, if_true, if_false]
  · rw [gI_sI, if_pos ⟨rfl, rfl⟩] at z
    exact absurd z (by decide)
