/-! The class: the face. -/
/-- the state stays -/
def Sst {α : Type} (s : S1) (_ : α) (t : S1) : Prop := t = s
def ptQ (s : S1) (k : Int) (t : S1) : Prop := Be s t ∧ gI t 12801 0 = gI s 12801 0 ∧ gI t 14220 0 = gI s 14220 0 ∧ (gI t 12800 0).toInt = (gI s 12800 0).toInt + k
theorem ptQ.trans {s t u : S1} {a b : Int} (h : ptQ s a t) (k : ptQ t b u) : ptQ s (a + b) u := ⟨h.1.trans k.1, k.2.1.trans h.2.1, k.2.2.1.trans h.2.2.1, by have := h.2.2.2; have := k.2.2.2; omega⟩
def ftI (s : S1) (y : Int32 × Int32) (t : S1) : Prop := ∃ k : Int, (0 ≤ k ∧ k ≤ 4) ∧ y.2.toInt = 24 - 8 * k ∧ ptQ s k t
theorem putTape_ok {s : S1} {v : Int32} (h0 : 0 ≤ (gI s 12800 0).toInt) (h1 : (gI s 12800 0).toInt + 4 ≤ 65536) : ok (M_LM_putOnTape v) s (fun _ t => ptQ s 4 t) := by
  have e0 : (0 : Int32).toInt = 0 := rfl
  have e1 : (1 : Int32).toInt = 1 := rfl
  have e8 : (-8 : Int32).toInt = -8 := rfl
  have e6 : (65536 : Int32).toInt = 65536 := rfl
  simp only [M_LM_putOnTape, ok_B, ok_C, ok_R, ok_L, ok_K, ok_GI, ok_GL, ok_PI, ok_PL, ok_AI, ok_AL, ok_SI, ok_SL, ok_CI, cmp_lt, cmp_le, cmp_gt, cmp_ge, cmp_eq, nar0, nar1, Sum.elim_inl, Sum.elim_inr, ok_PzT, ok_PzC, ok_PzP, ok_PrC, ok_PrP, ok_PrF, ok_PrN, ok_Ln, ok_CL, ok_Nw, ok_S, ok_Ks, ok_Nz]
  refine ok_W (ftI s) (fun y _ => (y.2.toInt + 8).toNat) ?_ (v, 24) s ⟨0, ⟨by omega, by omega⟩, rfl, Be.refl s, rfl, rfl, by omega⟩
  rintro ⟨x, i⟩ t ⟨k, ⟨k0, k1⟩, ei, b, q1, q2, q3⟩
  dsimp only at ei
  simp only [M_LM_putOnTape_L3, ok_B, ok_C, ok_R, ok_L, ok_K, ok_GI, ok_GL, ok_PI, ok_PL, ok_AI, ok_AL, ok_SI, ok_SL, ok_CI, cmp_lt, cmp_le, cmp_gt, cmp_ge, cmp_eq, nar0, nar1, Sum.elim_inl, Sum.elim_inr, ok_PzT, ok_PzC, ok_PzP, ok_PrC, ok_PrP, ok_PrF, ok_PrN, ok_Ln, ok_CL, ok_Nw, ok_S, ok_Ks, ok_Nz]
  refine ⟨fun c => ?_, fun c => ?_⟩
  · rw [i32_lt] at c
    have : k = 4 := by omega
    rw [this] at q3
    exact ⟨b, q1, q2, q3⟩
  · rw [i32_lt] at c
    have ia : (i + -8).toInt = i.toInt + -8 := by rw [ktI_add] <;> omega
    clear e8
    generalize i + -8 = i' at ia ⊢
    have ea : (gI t 12800 0 + 1).toInt = (gI t 12800 0).toInt + 1 := by rw [ktI_add] <;> omega
    refine ⟨⟨by rw [i32_le]; omega, by rw [i32_lt]; omega⟩, ⟨k + 1, ⟨by omega, by omega⟩, by dsimp only; omega, b.trans ⟨fun f j q => ?_, fun _ _ _ => rfl, fun a j k q => ?_, fun _ _ _ _ => rfl⟩, ?_, ?_, ?_⟩, by omega⟩
    · rw [gI_sI, if_neg (fun z => by omega)]
      rfl
    · show gA (sA t 108 0 _ _) a j k = _
      rw [gA_sA, if_neg (fun z => q.2 z.1)]
    · rw [gI_sI, if_neg (fun z => absurd z.1 (by decide))]
      exact q1
    · rw [gI_sI, if_neg (fun z => absurd z.1 (by decide))]
      exact q2
    · rw [gI_sI, if_pos ⟨rfl, rfl⟩]
      show (gI t 12800 0 + 1).toInt = _
      omega
theorem Fz.pt {s t : S1} {n : Nat × Nat} {k : Int} (h : Fz s n) (q : ptQ s k t) (b : 0 ≤ (gI s 12800 0).toInt + k ∧ (gI s 12800 0).toInt + k ≤ 65536) : Fz t n := h.be q.1 (by unfold lmR; rw [q.2.2.1]; exact h.lm) (by rw [q.2.2.2]; exact b) (fun z => by rw [← q.2.1]; exact z)
theorem feed_ok {s : S1} {n : Nat × Nat} (h : Fz s n) (a b c d e : Int32) : ok (X_feed a b c d e) s (fun _ t => Fz t n) := by
  have e2 : (20 : Int32).toInt = 20 := rfl
  have e6 : (65536 : Int32).toInt = 65536 := rfl
  obtain ⟨h0, h1⟩ := h.1
  simp only [X_feed, ok_B, ok_C, ok_R, ok_L, ok_K, ok_GI, ok_GL, ok_PI, ok_PL, ok_AI, ok_AL, ok_SI, ok_SL, ok_CI, cmp_lt, cmp_le, cmp_gt, cmp_ge, cmp_eq, nar0, nar1, Sum.elim_inl, Sum.elim_inr, ok_PzT, ok_PzC, ok_PzP, ok_PrC, ok_PrP, ok_PrF, ok_PrN, ok_Ln, ok_CL, ok_Nw, ok_S, ok_Ks, ok_Nz]
  refine ⟨fun c => ?_, fun _ => h⟩
  have ea : (gI s 12800 0 + 20).toInt = (gI s 12800 0).toInt + 20 := by rw [ktI_add] <;> omega
  rw [i32_le, ea] at c
  refine ok_mono (putTape_ok h0 (by omega)) ?_
  rintro - t1 q1
  have l1 := q1.2.2.2
  refine ok_mono (putTape_ok (by omega) (by omega)) ?_
  rintro - t2 q2
  have l2 := q2.2.2.2
  refine ok_mono (putTape_ok (by omega) (by omega)) ?_
  rintro - t3 q3
  have l3 := q3.2.2.2
  refine ok_mono (putTape_ok (by omega) (by omega)) ?_
  rintro - t4 q4
  have l4 := q4.2.2.2
  refine ok_mono (putTape_ok (by omega) (by omega)) ?_
  rintro - t5 q5
  have l5 := q5.2.2.2
  exact h.pt ((((q1.trans q2).trans q3).trans q4).trans q5) ⟨by omega, by omega⟩
theorem end_ok {s : S1} {n : Nat × Nat} (h : Fz s n) (a : Int32) : ok (X_end a) s (fun _ t => Fz t n) := by
  have e0 : (0 : Int32).toInt = 0 := rfl
  obtain ⟨h0, h1⟩ := id h.1
  simp only [X_end, ok_B, ok_C, ok_R, ok_L, ok_K, ok_GI, ok_GL, ok_PI, ok_PL, ok_AI, ok_AL, ok_SI, ok_SL, ok_CI, cmp_lt, cmp_le, cmp_gt, cmp_ge, cmp_eq, nar0, nar1, Sum.elim_inl, Sum.elim_inr, ok_PzT, ok_PzC, ok_PzP, ok_PrC, ok_PrP, ok_PrF, ok_PrN, ok_Ln, ok_CL, ok_Nw, ok_S, ok_Ks, ok_Nz]
  refine ⟨fun _ => h, fun c => ⟨fun c2 => ?_, fun _ => h⟩⟩
  rw [i32_lt] at c
  rw [i32_le] at c2
  refine h.be ⟨fun f j q => ?_, fun _ _ _ => rfl, fun _ _ _ _ => rfl, fun _ _ _ _ => rfl⟩ ?_ ?_ (fun z => ?_)
  · rw [gI_sI, if_neg (fun z => by omega)]
  · unfold lmR
    rw [gI_sI, if_neg (fun z => absurd z.1 (by decide))]
    exact h.lm
  · rw [gI_sI, if_pos ⟨rfl, rfl⟩]
    omega
  · rw [gI_sI, if_neg (fun z => absurd z.1 (by decide))] at z
    exact z
theorem fault_ok {s : S1} {n : Nat × Nat} (h : Fz s n) (a : Int32) : ok (X_fault a) s (Sst s) := by
  simp only [X_fault, M_LM_fault_j17, ok_B, ok_C, ok_R, ok_L, ok_K, ok_GI, ok_GL, ok_PI, ok_PL, ok_AI, ok_AL, ok_SI, ok_SL, ok_CI, cmp_lt, cmp_le, cmp_gt, cmp_ge, cmp_eq, nar0, nar1, Sum.elim_inl, Sum.elim_inr, ok_PzT, ok_PzC, ok_PzP, ok_PrC, ok_PrP, ok_PrF, ok_PrN, ok_Ln, ok_CL, ok_Nw, ok_S, ok_Ks, ok_Nz]
  exact ⟨fun _ => ⟨fun _ => rfl, fun _ => rfl⟩, fun _ => ⟨fun _ => ⟨fun _ => rfl, fun _ => rfl⟩, fun _ => rfl⟩⟩
theorem limit_ok {s : S1} {n : Nat × Nat} (h : Fz s n) (a : Int32) : ok (X_limit a) s (fun _ t => Fz t n) := by
  have e2 : (200 : Int32).toInt = 200 := rfl
  have e4 : (4000 : Int32).toInt = 4000 := rfl
  simp only [X_limit, ok_B, ok_C, ok_R, ok_L, ok_K, ok_GI, ok_GL, ok_PI, ok_PL, ok_AI, ok_AL, ok_SI, ok_SL, ok_CI, cmp_lt, cmp_le, cmp_gt, cmp_ge, cmp_eq, nar0, nar1, Sum.elim_inl, Sum.elim_inr, ok_PzT, ok_PzC, ok_PzP, ok_PrC, ok_PrP, ok_PrF, ok_PrN, ok_Ln, ok_CL, ok_Nw, ok_S, ok_Ks, ok_Nz]
  refine ⟨fun _ => h, fun c => ⟨fun c2 => ?_, fun _ => h⟩⟩
  rw [i32_lt] at c
  rw [i32_le] at c2
  refine h.be ⟨fun f j q => ?_, fun _ _ _ => rfl, fun _ _ _ _ => rfl, fun _ _ _ _ => rfl⟩ ?_ ?_ (fun z => ?_)
  · rw [gI_sI, if_neg (fun z => q.2 z.1)]
  · unfold lmR
    rw [gI_sI, if_pos ⟨rfl, rfl⟩]
    omega
  · rw [gI_sI, if_neg (fun z => absurd z.1 (by decide))]
    exact h.1
  · rw [gI_sI, if_neg (fun z => absurd z.1 (by decide))] at z
    exact z
/-- after a run or a collection -/
theorem Fz.on {s t : S1} {n m : Nat × Nat} {b : Bool} (h : Fz s n) (z : Zr 111 b s t) (r : Rz t m) : Fz t m := ⟨by rw [z.1 12800 0 (by omega)]; exact h.1, ⟨r.w.ro, r.w.sf⟩, fun _ => r⟩
theorem xrun_ok {s : S1} {n : Nat × Nat} (h : Fz s n) (a : Int32) : ok (X_run n a) s (fun r t => Fz t r.2) := by
  have e1 : (1 : Int32).toInt = 1 := rfl
  have e5 : (100000 : Int32).toInt = 100000 := rfl
  simp only [X_run, ok_B, ok_C, ok_R, ok_L, ok_K, ok_GI, ok_GL, ok_PI, ok_PL, ok_AI, ok_AL, ok_SI, ok_SL, ok_CI, cmp_lt, cmp_le, cmp_gt, cmp_ge, cmp_eq, nar0, nar1, Sum.elim_inl, Sum.elim_inr, ok_PzT, ok_PzC, ok_PzP, ok_PrC, ok_PrP, ok_PrF, ok_PrN, ok_Ln, ok_CL, ok_Nw, ok_S, ok_Ks, ok_Nz]
  refine ⟨fun _ => h, fun c => ⟨fun c2 => ⟨fun _ => h, fun ld => ?_⟩, fun _ => h⟩⟩
  rw [i32_lt] at c
  rw [i32_le] at c2
  refine ok_mono ((run_ok (l := a) (h.2.2 ld) (by omega) (by omega) ld).zk (zk_LM_run n a)) ?_
  rintro ⟨r, m⟩ t ⟨rz, z⟩
  exact h.on z rz
theorem Rz.gc {s t : S1} {n : Nat × Nat} (r : Rz s n) (H : cHI t) (R : cRt t) (g : cGc s t) : Rz t n := by
  obtain ⟨r, o⟩ := r
  have I := g.1
  have o' : outR t := by
    unfold outR at o ⊢
    rw [I 16641 _ (by decide)]
    exact o
  have mk : ∀ {τ : Bool}, cW s n → qFr τ s → cW t n ∧ qFr τ t := fun {τ} W F => by
    have w := W.mg F (.inr ⟨W.ld, g⟩) ⟨H, fun _ => R⟩
    exact ⟨w.1, w.2.1⟩
  refine ⟨?_, o'⟩
  rcases r with r | r
  · left
    obtain ⟨W, F, r1, r2, r3, r4, r5, r6⟩ := r
    obtain ⟨W', F'⟩ := mk W F
    have cur : mCur t = mCur s := I _ _ (by decide)
    have dep : ∀ c, oD t c = oD s c := fun c => I _ _ (by decide)
    have eF : tF t = tF s := by
      unfold tF
      rw [cur, dep]
    have ePr : ∀ f, fPr t f = fPr s f := fun f => I _ _ (by decide)
    have eNi : ∀ p, pNi t p = pNi s p := fun p => by unfold pNi; rw [I _ _ (by decide)]
    have eNr : ∀ p, pNr t p = pNr s p := fun p => by unfold pNr; rw [I _ _ (by decide)]
    have eW : ∀ p i, dW t p i = dW s p i := fun p i => by unfold dW; rw [I 18440 _ (by decide), g.2.2.1 104 _ _ (by decide)]
    refine ⟨W', F', ?_, ?_, ?_, ?_, ?_, ?_⟩
    · rw [cur, I _ _ (by decide)]
      exact r1
    · rw [I _ _ (by decide)]
      exact r2
    · rw [cur, dep]
      exact r3
    · rw [eF, show fWh t (tF s) = fWh s (tF s) from I _ _ (by decide)]
      exact r4
    · rw [eF, ePr, eNi, I 19461 _ (by decide)]
      exact r5
    · rw [eF, ePr, eNr, eW, I 19461 _ (by decide), I 16390 _ (by decide)]
      exact r6
  · right
    obtain ⟨W, F, r1, r2⟩ := r
    obtain ⟨W', F'⟩ := mk W F
    refine ⟨W', F', ?_, ?_⟩
    · rw [I _ _ (by decide)]
      exact r1
    · rw [I _ _ (by decide)]
      exact r2
theorem xcollect_ok {s : S1} {n : Nat × Nat} (h : Fz s n) : ok X_collect s (fun _ t => Fz t n) := by
  simp only [X_collect, ok_B, ok_C, ok_R, ok_L, ok_K, ok_GI, ok_GL, ok_PI, ok_PL, ok_AI, ok_AL, ok_SI, ok_SL, ok_CI, cmp_lt, cmp_le, cmp_gt, cmp_ge, cmp_eq, nar0, nar1, Sum.elim_inl, Sum.elim_inr, ok_PzT, ok_PzC, ok_PzP, ok_PrC, ok_PrP, ok_PrF, ok_PrN, ok_Ln, ok_CL, ok_Nw, ok_S, ok_Ks, ok_Nz]
  refine ⟨fun _ => h, fun ld => ?_⟩
  have rz := h.2.2 ld
  refine ok_mono (clean_ok rz.w.hi rz.w.rt) ?_
  rintro - t ⟨H, R, g⟩
  have rt := rz.gc H R g
  refine ⟨by decide, ?_, ⟨rt.w.ro, rt.w.sf⟩, fun _ => rt⟩
  rw [g.1 12800 0 (by decide)]
  exact h.1
def nrQ (s : S1) (k : Int32) (v : Int32) (t : S1) : Prop := t = s ∧ (v = 0 → gI s 12801 0 ≠ 0 ∧ 0 ≤ k.toInt ∧ k.toInt < (gI s 18050 0).toInt)
theorem noResult_ok (s : S1) (k : Int32) : ok (M_LM_hasNoResult k) s (nrQ s k) := by
  have e0 : (0 : Int32).toInt = 0 := rfl
  simp only [M_LM_hasNoResult, M_LM_hasNoResult_j25, ok_B, ok_C, ok_R, ok_L, ok_K, ok_GI, ok_GL, ok_PI, ok_PL, ok_AI, ok_AL, ok_SI, ok_SL, ok_CI, cmp_lt, cmp_le, cmp_gt, cmp_ge, cmp_eq, nar0, nar1, Sum.elim_inl, Sum.elim_inr, ok_PzT, ok_PzC, ok_PzP, ok_PrC, ok_PrP, ok_PrF, ok_PrN, ok_Ln, ok_CL, ok_Nw, ok_S, ok_Ks, ok_Nz]
  have no : nrQ s k 1 s := ⟨rfl, fun z => absurd z (by decide)⟩
  refine ⟨fun _ => no, fun ld => ⟨fun _ => no, fun c => ⟨fun c2 => ⟨rfl, fun _ => ⟨ld, ?_, ?_⟩⟩, fun _ => no⟩⟩⟩
  · rw [i32_lt] at c
    omega
  · rw [i32_lt] at c2
    exact c2
/-- a result that is there -/
theorem res_at {s : S1} {n : Nat × Nat} {k : Int32} (h : Fz s n) (ld : gI s 12801 0 ≠ 0) (k0 : 0 ≤ k.toInt) (k1 : k.toInt < (gI s 18050 0).toInt) : cW s n ∧ (0 ≤ k ∧ k < 512) ∧ cV (cLv false s) (gA s 142 0 k) (gB s 143 0 k) := by
  have W := (h.2.2 ld).w
  have r := W.rt.2.2.1
  have r1 := r.1.2
  rw [i32_le] at r1
  have e5 : (512 : Int32).toInt = 512 := rfl
  exact ⟨W, ⟨by rw [i32_le]; exact k0, by rw [i32_lt]; omega⟩, r.2 k (by rw [i32_le]; exact k0) (by rw [i32_lt]; exact k1)⟩
theorem kind_ok {s : S1} {n : Nat × Nat} (h : Fz s n) (k : Int32) : ok (X_kind k) s (Sst s) := by
  simp only [X_kind, ok_B, ok_C, ok_R, ok_L, ok_K, ok_GI, ok_GL, ok_PI, ok_PL, ok_AI, ok_AL, ok_SI, ok_SL, ok_CI, cmp_lt, cmp_le, cmp_gt, cmp_ge, cmp_eq, nar0, nar1, Sum.elim_inl, Sum.elim_inr, ok_PzT, ok_PzC, ok_PzP, ok_PrC, ok_PrP, ok_PrF, ok_PrN, ok_Ln, ok_CL, ok_Nw, ok_S, ok_Ks, ok_Nz]
  refine ok_mono (noResult_ok s k) ?_
  rintro v t ⟨et, q⟩
  rw [et]
  refine ⟨fun z => ?_, fun _ => rfl⟩
  obtain ⟨ld, k0, k1⟩ := q z
  exact ⟨(res_at h ld k0 k1).2.1, rfl⟩
theorem value_ok {s : S1} {n : Nat × Nat} (h : Fz s n) (k : Int32) : ok (X_value k) s (Sst s) := by
  simp only [X_value, M_He_numberOf, ok_B, ok_C, ok_R, ok_L, ok_K, ok_GI, ok_GL, ok_PI, ok_PL, ok_AI, ok_AL, ok_SI, ok_SL, ok_CI, cmp_lt, cmp_le, cmp_gt, cmp_ge, cmp_eq, nar0, nar1, Sum.elim_inl, Sum.elim_inr, ok_PzT, ok_PzC, ok_PzP, ok_PrC, ok_PrP, ok_PrF, ok_PrN, ok_Ln, ok_CL, ok_Nw, ok_S, ok_Ks, ok_Nz]
  refine ok_mono (noResult_ok s k) ?_
  rintro v t ⟨et, q⟩
  rw [et]
  refine ⟨fun z => ?_, fun _ => rfl⟩
  obtain ⟨ld, k0, k1⟩ := q z
  obtain ⟨W, kr, cv⟩ := res_at h ld k0 k1
  refine ⟨kr, kr, fun c4 => ?_, fun c4 => ⟨fun _ => rfl, fun c5 => ⟨fun v0 => ⟨?_, rfl⟩, fun _ => rfl⟩⟩⟩
  · rw [c4] at cv
    have l := cv.at4
    have w := W.len l
    exact ⟨w.1, w.2.1, rfl⟩
  · rcases cv with ⟨-, c⟩ | ⟨-, -, l⟩ | ⟨-, l⟩
    · rw [i32_le] at c c5
      have e3 : (3 : Int32).toInt = 3 := rfl
      have e4 : (4 : Int32).toInt = 4 := rfl
      omega
    · exact W.hi.1.2 _ l.1.1 l.1.2
    · rcases l with l | ⟨-, l | l⟩
      · rw [i64_lt] at l
        rw [i64_le] at v0
        omega
      · exact W.hi.1.2 _ l.1.1 l.1.2
      · exact W.hi.1.2 _ l.1.1 l.1.2
theorem byteOf_ok {s : S1} {n : Nat × Nat} (h : Fz s n) (k i : Int32) : ok (X_byteOf k i) s (Sst s) := by
  have e0 : (0 : Int32).toInt = 0 := rfl
  simp only [X_byteOf, ok_B, ok_C, ok_R, ok_L, ok_K, ok_GI, ok_GL, ok_PI, ok_PL, ok_AI, ok_AL, ok_SI, ok_SL, ok_CI, cmp_lt, cmp_le, cmp_gt, cmp_ge, cmp_eq, nar0, nar1, Sum.elim_inl, Sum.elim_inr, ok_PzT, ok_PzC, ok_PzP, ok_PrC, ok_PrP, ok_PrF, ok_PrN, ok_Ln, ok_CL, ok_Nw, ok_S, ok_Ks, ok_Nz]
  refine ok_mono (noResult_ok s k) ?_
  rintro v t ⟨et, q⟩
  rw [et]
  refine ⟨fun z => ?_, fun _ => rfl⟩
  obtain ⟨ld, k0, k1⟩ := q z
  obtain ⟨W, kr, cv⟩ := res_at h ld k0 k1
  refine ⟨kr, fun c4 => ?_, fun _ => rfl⟩
  rw [c4] at cv
  have w := W.len cv.at4
  refine ⟨kr, w.1, w.2.1, fun _ => rfl, fun c => ⟨fun c2 => ⟨⟨?_, c2⟩, rfl⟩, fun _ => rfl⟩⟩
  rw [i32_lt] at c
  rw [i32_le]
  omega
theorem output_ok {s : S1} {n : Nat × Nat} (h : Fz s n) (i : Int32) : ok (X_output i) s (Sst s) := by
  have e0 : (0 : Int32).toInt = 0 := rfl
  have e2 : (20000 : Int32).toInt = 20000 := rfl
  simp only [X_output, ok_B, ok_C, ok_R, ok_L, ok_K, ok_GI, ok_GL, ok_PI, ok_PL, ok_AI, ok_AL, ok_SI, ok_SL, ok_CI, cmp_lt, cmp_le, cmp_gt, cmp_ge, cmp_eq, nar0, nar1, Sum.elim_inl, Sum.elim_inr, ok_PzT, ok_PzC, ok_PzP, ok_PrC, ok_PrP, ok_PrF, ok_PrN, ok_Ln, ok_CL, ok_Nw, ok_S, ok_Ks, ok_Nz]
  refine ⟨fun _ => rfl, fun ld => ⟨fun _ => rfl, fun c => ⟨fun c2 => ⟨⟨?_, ?_⟩, rfl⟩, fun _ => rfl⟩⟩⟩
  · rw [i32_lt] at c
    rw [i32_le]
    omega
  · have o := (h.2.2 ld).2.2
    rw [i32_lt] at c2 ⊢
    omega
theorem count_ok {s : S1} {n : Nat × Nat} (h : Fz s n) (i : Int32) : ok (M_LM_count i) s (Sst s) := by
  have e0 : (0 : Int32).toInt = 0 := rfl
  have e11 : (11 : Int32).toInt = 11 := rfl
  have e15 : (15 : Int32).toInt = 15 := rfl
  simp only [M_LM_count, ok_B, ok_C, ok_R, ok_L, ok_K, ok_GI, ok_GL, ok_PI, ok_PL, ok_AI, ok_AL, ok_SI, ok_SL, ok_CI, cmp_lt, cmp_le, cmp_gt, cmp_ge, cmp_eq, nar0, nar1, Sum.elim_inl, Sum.elim_inr, ok_PzT, ok_PzC, ok_PzP, ok_PrC, ok_PrP, ok_PrF, ok_PrN, ok_Ln, ok_CL, ok_Nw, ok_S, ok_Ks, ok_Nz]
  refine ⟨fun _ => rfl, fun c => ⟨fun c2 => ⟨fun _ => rfl, fun _ => ⟨fun _ => rfl, fun ld => ⟨fun _ => rfl, fun _ => ⟨fun _ => rfl, fun _ => ⟨fun _ => ⟨fun _ => ⟨(h.2.2 ld).w.cur.1, rfl⟩, fun _ => rfl⟩, fun _ => ⟨fun _ => rfl, fun _ => ⟨⟨?_, ?_⟩, rfl⟩⟩⟩⟩⟩⟩⟩, fun _ => rfl⟩⟩
  · rw [i32_lt] at c
    rw [i32_le]
    omega
  · rw [i32_le] at c2
    rw [i32_lt]
    omega
