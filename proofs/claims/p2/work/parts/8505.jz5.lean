/-! Both machines: the class's feed. -/
def fcQ (s : S1) (n : Nat × Nat) (r : Int32 ⊕ Int32) (t : S1) : Prop := Fz t n ∧ Zr 100 true s t ∧ (((gI s 12800 0).toInt ≤ 65516 ∧ r = .inr (gI t 12800 0) ∧ (gI t 12800 0).toInt = (gI s 12800 0).toInt + 20) ∨ (65516 < (gI s 12800 0).toInt ∧ r = .inl 1 ∧ t = s))
def fcP (s : S1) (n : Nat × Nat) (r : Int32 ⊕ Int32) (t : S1) : Prop := Fz t n ∧ (((gI s 12800 0).toInt ≤ 65516 ∧ r = .inr (gI t 12800 0) ∧ (gI t 12800 0).toInt = (gI s 12800 0).toInt + 20) ∨ (65516 < (gI s 12800 0).toInt ∧ r = .inl 1 ∧ t = s))
theorem jfeedC {s : S1} {n : Nat × Nat} (h : Fz s n) (a b c d e : Int32) : ok (X_feed a b c d e) s (fcQ s n) := by
  have e2 : (20 : Int32).toInt = 20 := rfl
  have e6 : (65536 : Int32).toInt = 65536 := rfl
  obtain ⟨h0, h1⟩ := id h.1
  have ea : (gI s 12800 0 + 20).toInt = (gI s 12800 0).toInt + 20 := by rw [ktI_add] <;> omega
  have w : ok (X_feed a b c d e) s (fcP s n) := by
    simp only [X_feed, ok_B, ok_C, ok_R, ok_L, ok_K, ok_GI, ok_GL, ok_PI, ok_PL, ok_AI, ok_AL, ok_SI, ok_SL, ok_CI, cmp_lt, cmp_le, cmp_gt, cmp_ge, cmp_eq, nar0, nar1, Sum.elim_inl, Sum.elim_inr, ok_PzT, ok_PzC, ok_PzP, ok_PrC, ok_PrP, ok_PrF, ok_PrN, ok_Ln, ok_CL, ok_Nw, ok_S, ok_Ks, ok_Nz]
    refine ⟨fun c => ?_, fun c => ⟨h, .inr ⟨?_, rfl, rfl⟩⟩⟩
    · rw [i32_le, ea] at c
      refine ok_mono (putTape_ok h0 (by omega)) ?_
      rintro - t1 q1
      have l1 := q1.2.2.2
      refine ok_mono (putTape_ok (by omega) (by omega)) ?_
      rintro - t2 q2
      have l2 := q2.2.2.2
      refine ok_mono (putTape_ok (by omega) (by omega)) ?_
      rintro - t3 q3
      have l3 := q3.2.2.2
      refine ok_mono (putTape_ok (by omega) (by omega)) ?_
      rintro - t4 q4
      have l4 := q4.2.2.2
      refine ok_mono (putTape_ok (by omega) (by omega)) ?_
      rintro - t5 q5
      have l5 := q5.2.2.2
      exact ⟨h.pt ((((q1.trans q2).trans q3).trans q4).trans q5) ⟨by omega, by omega⟩, .inl ⟨by omega, rfl, by omega⟩⟩
    · rw [i32_le, ea] at c
      omega
  exact ok_mono (w.zk (zx_feed a b c d e)) fun r t q => ⟨q.1.1, q.2, q.1.2⟩
