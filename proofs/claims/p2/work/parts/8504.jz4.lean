/-! Both machines: end's answers. -/
def enR (a z : Int32) : Prop := 0 ≤ a ∧ a ≤ z
def ecQ (s : S1) (n : Nat × Nat) (a : Int32) (r : Int32 ⊕ Int32) (t : S1) : Prop := Fz t n ∧ Zr 100 true s t ∧ ((enR a (gI s 12800 0) ∧ r = .inr a ∧ gI t 12800 0 = a) ∨ (¬ enR a (gI s 12800 0) ∧ r = .inl 2 ∧ t = s))
theorem jendC {s : S1} {n : Nat × Nat} (h : Fz s n) (a : Int32) : ok (X_end a) s (ecQ s n a) := by
  have w : hu (X_end a) s (fun r t => (enR a (gI s 12800 0) ∧ r = .inr a ∧ gI t 12800 0 = a) ∨ (¬ enR a (gI s 12800 0) ∧ r = .inl 2 ∧ t = s)) := by
    unfold X_end
    rw [hu_C]
    refine ⟨fun c => (hu_R _ _ _).2 (.inr ⟨fun z => absurd c (Int32.not_lt.mpr z.1), rfl, rfl⟩), fun c => ?_⟩
    rw [hu_B, hu_GI, hu_C]
    refine ⟨fun c2 => ?_, fun c2 => (hu_R _ _ _).2 (.inr ⟨fun z => c2 z.2, rfl, rfl⟩)⟩
    rw [hu_B, hu_PI, hu_R]
    exact .inl ⟨⟨Int32.not_lt.mp c, c2⟩, rfl, by rw [gI_sI, if_pos ⟨rfl, rfl⟩]⟩
  exact ok_mono (((end_ok h a).zk (zx_end a)).wh w) fun r t q => ⟨q.1.1, q.1.2, q.2⟩
def erQ (s : S1) (m e : Nat × Nat) (a : Int32) (v : Int32) (t : S1) : Prop := Vz t m e ∧ Yr s t ∧ gI t 32 0 = gI s 32 0 ∧ ((enR a (gI s 1 0) ∧ v = a ∧ gI t 1 0 = a ∧ gI t 2 0 = 0) ∨ (¬ enR a (gI s 1 0) ∧ v = 0 ∧ gI t 1 0 = gI s 1 0 ∧ gI t 2 0 = 1))
theorem jendR {s : S1} {m e : Nat × Nat} (h : Vz s m e) (a : Int32) : ok (M_Mo_end a) s (erQ s m e a) := by
  have I : ∀ x : Int32, gI (sI s 2 0 x) 1 0 = gI s 1 0 := fun x => by rw [gI_sI, if_neg (fun z => absurd z.1 (by decide))]
  have bad : ¬ enR a (gI s 1 0) → hu (M_Mo_end_j24 a 1 1) (sI s 2 0 0) (fun v t => (enR a (gI s 1 0) ∧ v = a ∧ gI t 1 0 = a ∧ gI t 2 0 = 0) ∨ (¬ enR a (gI s 1 0) ∧ v = 0 ∧ gI t 1 0 = gI s 1 0 ∧ gI t 2 0 = 1)) := fun n => by
    simp only [M_Mo_end_j24, M_Mo_refuse, hu_B, hu_C, hu_GI, hu_PI, hu_R, hu_K]
    refine ⟨fun z => absurd z (by decide), fun _ _ => ⟨fun z => absurd z (by decide), fun _ => .inr ⟨n, trivial, ?_, ?_⟩⟩⟩
    · rw [gI_sI, if_neg (fun z => absurd z.1 (by decide))]
      exact I 0
    · rw [gI_sI, if_pos ⟨rfl, rfl⟩]
  have w : hu (M_Mo_end a) s (fun v t => (enR a (gI s 1 0) ∧ v = a ∧ gI t 1 0 = a ∧ gI t 2 0 = 0) ∨ (¬ enR a (gI s 1 0) ∧ v = 0 ∧ gI t 1 0 = gI s 1 0 ∧ gI t 2 0 = 1)) := by
    unfold M_Mo_end
    rw [hu_B, hu_PI, hu_C]
    refine ⟨fun c => bad (fun z => absurd c (Int32.not_lt.mpr z.1)), fun c => ?_⟩
    rw [hu_B, hu_GI, I, hu_C]
    refine ⟨fun c2 => ?_, fun c2 => bad (fun z => c2 z.2)⟩
    simp only [M_Mo_end_j24, M_Mo_refuse, hu_B, hu_C, hu_GI, hu_PI, hu_R, hu_K]
    refine ⟨fun _ _ => ⟨fun _ => .inl ⟨⟨Int32.not_lt.mp c, c2⟩, trivial, ?_, ?_⟩, fun z => absurd trivial z⟩, fun z => absurd trivial z⟩
    · rw [gI_sI, if_pos ⟨rfl, rfl⟩]
    · rw [gI_sI, if_neg (fun z => absurd z.1 (by decide)), gI_sI, if_pos ⟨rfl, rfl⟩]
  obtain ⟨v, t, E, q⟩ := ok_out (((rend_ok h a).yk (yk_Mo_end a)).wh w)
  exact ok_in E ⟨q.1.1, q.1.2, t3k_Mo_end a s v t E, q.2⟩
/-- both tapes' lengths -/
def Jt (s : S1) (n m e : Nat × Nat) : Prop := Jz s n m e ∧ gI s 12800 0 = gI s 1 0
theorem jend {s : S1} {n m e : Nat × Nat} (h : Jt s n m e) (a : Int32) : ok (X_end a) s (fun r t => ok (M_Mo_end a) t (fun v w => Jt w n m e ∧ ((r = .inr v ∧ gI w 2 0 = 0) ∨ (r = .inl 2 ∧ v = 0 ∧ gI w 2 0 = 1)))) := by
  refine ok_mono (jendC h.1.1 a) ?_
  rintro r t ⟨ft, zr, q⟩
  have jt := h.1.cls ft zr
  have e1 : gI t 1 0 = gI s 1 0 := zr.1 1 0 (by omega)
  refine ok_mono (jendR jt.2.1 a) ?_
  rintro v w ⟨vw, yr, l, p⟩
  have jw := jt.ref vw yr l
  have e2 : gI w 12800 0 = gI t 12800 0 := yr.1 12800 0 (by omega)
  rw [e1, ← h.2] at p
  rcases q with ⟨q1, er, et⟩ | ⟨q1, er, et⟩
  · rcases p with ⟨-, ev, ew, e0⟩ | ⟨l', -⟩
    · exact ⟨⟨jw, by rw [e2, et, ew]⟩, .inl ⟨by rw [er, ev], e0⟩⟩
    · exact absurd q1 l'
  · rcases p with ⟨l', -⟩ | ⟨-, ev, ew, e0⟩
    · exact absurd l' q1
    · exact ⟨⟨jw, by rw [e2, ew, et]⟩, .inr ⟨er, ev, e0⟩⟩
