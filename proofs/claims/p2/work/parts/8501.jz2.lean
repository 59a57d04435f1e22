/-! Both machines: the limit's answers. -/
def liR (a : Int32) : Prop := 200 ≤ a ∧ a ≤ 4000
def lcQ (s : S1) (n : Nat × Nat) (a : Int32) (r : Int32 ⊕ Int32) (t : S1) : Prop := Fz t n ∧ (∀ f i, f ≠ 14220 → gI t f i = gI s f i) ∧ t.2 = s.2 ∧ ((liR a ∧ r = .inr (gI s 14220 0) ∧ gI t 14220 0 = a) ∨ (¬ liR a ∧ r = .inl 2 ∧ t = s))
theorem jlimC {s : S1} {n : Nat × Nat} (h : Fz s n) (a : Int32) : ok (X_limit a) s (lcQ s n a) := by
  have w : hu (X_limit a) s (fun r t => (∀ f i, f ≠ 14220 → gI t f i = gI s f i) ∧ t.2 = s.2 ∧ ((liR a ∧ r = .inr (gI s 14220 0) ∧ gI t 14220 0 = a) ∨ (¬ liR a ∧ r = .inl 2 ∧ t = s))) := by
    unfold X_limit
    rw [hu_C]
    refine ⟨fun c => (hu_R _ _ _).2 ⟨fun _ _ _ => rfl, rfl, .inr ⟨fun z => absurd c (Int32.not_lt.mpr z.1), rfl, rfl⟩⟩, fun c => ?_⟩
    rw [hu_C]
    refine ⟨fun c2 => ?_, fun c2 => (hu_R _ _ _).2 ⟨fun _ _ _ => rfl, rfl, .inr ⟨fun z => c2 z.2, rfl, rfl⟩⟩⟩
    rw [hu_B, hu_GI, hu_B, hu_PI, hu_R]
    exact ⟨fun f i q => by rw [gI_sI, if_neg (fun z => q z.1)], rfl, .inl ⟨⟨Int32.not_lt.mp c, c2⟩, rfl, by rw [gI_sI, if_pos ⟨rfl, rfl⟩]⟩⟩
  exact ok_mono ((limit_ok h a).wh w) fun r t q => q
def lrQ2 (s : S1) (m e : Nat × Nat) (a : Int32) (v : Int32) (t : S1) : Prop := Vz t m e ∧ Yr s t ∧ ((liR a ∧ v = gI s 32 0 ∧ gI t 32 0 = a ∧ gI t 2 0 = 0) ∨ (¬ liR a ∧ v = 0 ∧ gI t 32 0 = gI s 32 0 ∧ gI t 2 0 = 1))
theorem jlimR {s : S1} {m e : Nat × Nat} (h : Vz s m e) (a : Int32) : ok (M_Mo_limit a) s (lrQ2 s m e a) := by
  have I : ∀ x : Int32, gI (sI s 2 0 x) 32 0 = gI s 32 0 := fun x => by rw [gI_sI, if_neg (fun z => absurd z.1 (by decide))]
  have bad : ¬ liR a → hu (M_Mo_limit_j26 a 1 1) (sI s 2 0 0) (fun v t => (liR a ∧ v = gI s 32 0 ∧ gI t 32 0 = a ∧ gI t 2 0 = 0) ∨ (¬ liR a ∧ v = 0 ∧ gI t 32 0 = gI s 32 0 ∧ gI t 2 0 = 1)) := fun n => by
    simp only [M_Mo_limit_j26, M_Mo_refuse, hu_B, hu_C, hu_GI, hu_PI, hu_R, hu_K]
    refine ⟨fun z => absurd z (by decide), fun _ _ => ⟨fun z => absurd z (by decide), fun _ => .inr ⟨n, trivial, ?_, ?_⟩⟩⟩
    · rw [gI_sI, if_neg (fun z => absurd z.1 (by decide))]
      exact I 0
    · rw [gI_sI, if_pos ⟨rfl, rfl⟩]
  have w : hu (M_Mo_limit a) s (fun v t => (liR a ∧ v = gI s 32 0 ∧ gI t 32 0 = a ∧ gI t 2 0 = 0) ∨ (¬ liR a ∧ v = 0 ∧ gI t 32 0 = gI s 32 0 ∧ gI t 2 0 = 1)) := by
    unfold M_Mo_limit
    rw [hu_B, hu_PI, hu_C]
    refine ⟨fun c => bad (fun z => absurd c (Int32.not_lt.mpr z.1)), fun c => ?_⟩
    rw [hu_C]
    refine ⟨fun c2 => ?_, fun c2 => bad (fun z => c2 z.2)⟩
    simp only [M_Mo_limit_j26, M_Mo_refuse, hu_B, hu_C, hu_GI, hu_PI, hu_R, hu_K]
    refine ⟨fun _ _ => ⟨fun _ => .inl ⟨⟨Int32.not_lt.mp c, c2⟩, I 0, ?_, ?_⟩, fun z => absurd trivial z⟩, fun z => absurd trivial z⟩
    · rw [gI_sI, if_pos ⟨rfl, rfl⟩]
    · rw [gI_sI, if_neg (fun z => absurd z.1 (by decide)), gI_sI, if_pos ⟨rfl, rfl⟩]
  refine ok_mono (((rlimit_ok h a).yk (yk_Mo_limit a)).wh w) fun v t q => ⟨q.1.1, q.1.2, q.2⟩
/-- both limits, the class first: they go on agreeing, and the answers agree -/
theorem jlim {s : S1} {n m e : Nat × Nat} (h : Jz s n m e) (a : Int32) : ok (X_limit a) s (fun r t => ok (M_Mo_limit a) t (fun v w => Jz w n m e ∧ ((r = .inr v ∧ gI w 2 0 = 0) ∨ (r = .inl 2 ∧ v = 0 ∧ gI w 2 0 = 1)))) := by
  refine ok_mono (jlimC h.1 a) ?_
  rintro r t ⟨ft, I, T2, q⟩
  have vt : Vz t m e := by
    have rb : Rb s t := ⟨fun f i z => I f i (by omega), fun f i _ => by show t.2.1 f i = s.2.1 f i; rw [T2], fun b i j _ => by show t.2.2.1 b i j = s.2.2.1 b i j; rw [T2], fun b i j _ => by show t.2.2.2 b i j = s.2.2.2 b i j; rw [T2]⟩
    refine rb.vz h.2.1 ?_ (fun z => ?_)
    · unfold f_size
      rw [I 1 0 (by decide)]
      exact h.2.1.1
    · unfold f_chunk at z ⊢
      rw [I 5 0 (by decide)] at z
      exact z
  refine ok_mono (jlimR vt a) ?_
  rintro v w ⟨vw, yr, p⟩
  have fw : Fz w n := yr.fz ft
  have e1 : gI w 14220 0 = gI t 14220 0 := yr.1 14220 0 (by omega)
  have e2 : gI t 32 0 = gI s 32 0 := I 32 0 (by decide)
  rcases q with ⟨l, er, et⟩ | ⟨l, er, et⟩
  · rcases p with ⟨-, ev, ew, e0⟩ | ⟨l', -⟩
    · exact ⟨⟨fw, vw, by rw [e1, et, ew]⟩, .inl ⟨by rw [er, ev, e2, h.2.2], e0⟩⟩
    · exact absurd l l'
  · rcases p with ⟨l', -⟩ | ⟨-, ev, ew, e0⟩
    · exact absurd l' l
    · exact ⟨⟨fw, vw, by rw [e1, ew, e2, et]; exact h.2.2⟩, .inr ⟨er, ev, e0⟩⟩
