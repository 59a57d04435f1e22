/-! A chunk that was read and looked over is a program. -/
theorem pg_of {s0 s : S1} (h : RdF (-1) s0 s) (h0 : nuP s0 = 0 ∧ nuH s0 = 0) (hf : f_fault s = 0) (hw : ∀ p, 0 ≤ p → p < f_protos s → ∀ i, 0 ≤ i → i < a_codes s p → Wf s p i) : Pg s ∧ a_upvalues s 0 = 1 := by
  obtain ⟨hG, hr, h3, h4, h5⟩ := h
  obtain ⟨h6, h7, -, h9⟩ := h5 hf
  obtain ⟨-, r1, r2, r3, r4, -⟩ := hr
  simp only [nuP, nuU, nuK, nuC, nuH] at h0 r1 r2 r3 r4 h6 h7 h9 h3 h4
  have e0 : (0 : Int32).toInt = 0 := rfl
  have e1 : (1 : Int32).toInt = 1 := rfl
  have e60 : (60 : Int32).toInt = 60 := rfl
  have e250 : (250 : Int32).toInt = 250 := rfl
  have e251 : (251 : Int32).toInt = 251 := rfl
  have e256 : (256 : Int32).toInt = 256 := rfl
  have e20 : (20000 : Int32).toInt = 20000 := rfl
  have e30 : (30000 : Int32).toInt = 30000 := rfl
  have e32 : (30200 : Int32).toInt = 30200 := rfl
  have le : ∀ {a b : Int32}, a.toInt ≤ b.toInt → a ≤ b := fun h => Int32.le_iff_toInt_le.mpr h
  have lt : ∀ {a b : Int32}, a.toInt < b.toInt → a < b := fun h => Int32.lt_iff_toInt_lt.mpr h
  have le' : ∀ {a b : Int32}, a ≤ b → a.toInt ≤ b.toInt := fun h => Int32.le_iff_toInt_le.mp h
  have lt' : ∀ {a b : Int32}, a < b → a.toInt < b.toInt := fun h => Int32.lt_iff_toInt_lt.mp h
  have ad : ∀ {a b : Int32}, 0 ≤ a.toInt → 0 ≤ b.toInt → a.toInt + b.toInt < 1000000 → (a + b).toInt = a.toInt + b.toInt := fun x y z => tI_add (by omega)
  have hz : f_protos s0 = 0 := Int32.toInt_inj.mp (by rw [e0]; exact h0.1)
  refine ⟨⟨⟨le (by omega), le (by omega)⟩, ⟨le (by omega), le (by omega)⟩, fun p hp0 hp1 => ?_⟩, ?_⟩
  · have q0 := le' hp0
    have q1 := lt' hp1
    obtain ⟨⟨re, ph, pH⟩, -⟩ := h7 p (by omega) q1
    obtain ⟨pa, pr, pu, pv, pc, pk, -⟩ := re
    simp only [nuP, nuU, nuK, nuC, nuH] at pv pc pk ph
    refine ⟨⟨le (by omega), le pa.2⟩, ⟨lt (by omega), lt (by omega)⟩, ⟨le (by omega), le (by omega)⟩, ⟨le (by omega), le (by omega), ?_⟩, ⟨le (by omega), le (by omega), le (by omega), le (by omega), ?_⟩, ⟨le (by omega), lt (by omega), le (by omega), le (by omega), ?_⟩, ⟨le (by omega), le (by omega), le (by omega), le (by omega), ?_⟩, hw p hp0 hp1, fun k k0 k1 => ?_⟩
    · exact le (by rw [ad pv.1 pu.1 (by omega)]; omega)
    · exact le (by rw [ad pc.1 pc.2.1 (by omega)]; omega)
    · exact le (by rw [ad pk.1 (by omega) (by omega)]; omega)
    · exact le (by rw [ad ph.1 ph.2.1 (by omega)]; omega)
    · have q2 := le' k0
      have q3 := lt' k1
      obtain ⟨c1, c2, c3⟩ := pH k (by omega) q3 (by omega)
      refine ⟨⟨le (show (0 : Int32).toInt ≤ _ from c1.1), lt c1.2⟩, fun j j0 j1 => ?_⟩
      obtain ⟨d1, d2, d3⟩ := c3 j (by have := le' j0; omega) (lt' j1)
      exact ⟨d1, d2, d3⟩
  · rw [hz] at h9
    exact Int32.toInt_inj.mp (by rw [e1]; exact h9 trivial)
