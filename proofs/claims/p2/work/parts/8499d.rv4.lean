/-! The reference: what is told of results; feed. -/
def noQ (n e : Nat × Nat) (k v : Int32) (t : S1) : Prop := Vz t n e ∧ (v = 0 → f_chunk t ≠ 0 ∧ 0 ≤ k ∧ k < gI t 1666 0)
theorem rnone_ok {s : S1} {n e : Nat × Nat} (h : Vz s n e) (k : Int32) : ok (M_Mo_none k) s (noQ n e k) := by
  have j34 : ∀ b : Int32, (b = 0 ∨ b = 1) → (b = 0 → f_chunk (sI s 2 0 0) ≠ 0 ∧ 0 ≤ k ∧ k < gI (sI s 2 0 0) 1666 0) → ok (M_Mo_none_j34 b 1) (sI s 2 0 0) (noQ n e k) := fun b hb hc => by
    simp only [M_Mo_none_j34, ok_B, ok_C, ok_R, ok_L, ok_K, ok_GI, ok_GL, ok_PI, ok_PL, ok_AI, ok_AL, ok_SI, ok_SL, ok_Pr, ok_CI, cmp_lt, cmp_le, cmp_gt, cmp_ge, cmp_eq, nar0, nar1, Sum.elim_inl, Sum.elim_inr]
    refine ok_mono (rrefuse_ok (h.t2 0) 1 b hb) ?_
    rintro v t ⟨ev, vt, st⟩
    rw [ev]
    refine ⟨hb, vt, fun z => ?_⟩
    rw [st z]
    exact hc z
  simp only [M_Mo_none, M_Mo_none_j29, ok_B, ok_C, ok_R, ok_L, ok_K, ok_GI, ok_GL, ok_PI, ok_PL, ok_AI, ok_AL, ok_SI, ok_SL, ok_Pr, ok_CI, cmp_lt, cmp_le, cmp_gt, cmp_ge, cmp_eq, nar0, nar1, Sum.elim_inl, Sum.elim_inr]
  refine ⟨fun _ => j34 1 (.inr rfl) (fun z => absurd z (by decide)), fun ld => ⟨fun _ => j34 1 (.inr rfl) (fun z => absurd z (by decide)), fun c => ⟨fun c2 => j34 0 (.inl rfl) (fun _ => ⟨ld, Int32.not_lt.mp c, c2⟩), fun _ => j34 1 (.inr rfl) (fun z => absurd z (by decide))⟩⟩⟩
theorem rres {s : S1} {n e : Nat × Nat} {k : Int32} (h : Vz s n e) (ld : f_chunk s ≠ 0) (k0 : 0 ≤ k) (k1 : k < gI s 1666 0) : GG s ∧ (0 ≤ k ∧ k < 400) ∧ Vl false s (gA s 14 0 k) (gB s 15 0 k) := by
  have g := (vz_ch h ld).gg.1
  have r := g.rown 13 (.inr (.inr rfl))
  exact ⟨g, ⟨k0, Int32.lt_of_lt_of_le k1 r.2⟩, g.rowv 13 (.inr (.inr rfl)) k k0 k1⟩
theorem rkind_ok {s : S1} {n e : Nat × Nat} (h : Vz s n e) (k : Int32) : ok (M_Mo_kind k) s (vlQ n e) := by
  simp only [M_Mo_kind, ok_B, ok_C, ok_R, ok_L, ok_K, ok_GI, ok_GL, ok_PI, ok_PL, ok_AI, ok_AL, ok_SI, ok_SL, ok_Pr, ok_CI, cmp_lt, cmp_le, cmp_gt, cmp_ge, cmp_eq, nar0, nar1, Sum.elim_inl, Sum.elim_inr]
  refine ok_mono (rnone_ok h k) ?_
  rintro v t ⟨vt, q⟩
  refine ⟨fun z => ?_, fun _ => vt⟩
  obtain ⟨ld, k0, k1⟩ := q z
  exact ⟨(rres vt ld k0 k1).2.1, vt⟩
def vlL (n e : Nat × Nat) (_ : Int64) (t : S1) : Prop := Vz t n e
theorem vl_hi {s : S1} {k : Int32} {v : Int64} (h : Vl false s k v) (k4 : 4 ≤ k.toInt) (v0 : 0 ≤ v) : Lv false s v.toInt32 k := by
  rcases h with h | h | h
  · have := h.2
    rw [i32_lt] at this
    have e4 : (4 : Int32).toInt = 4 := rfl
    omega
  · have := h.2.2
    rw [i64_lt] at this
    rw [i64_le] at v0
    omega
  · exact h.2.2.2.2
theorem rvalue_ok {s : S1} {n e : Nat × Nat} (h : Vz s n e) (k : Int32) : ok (M_Mo_value k) s (vlL n e) := by
  have e3 : (3 : Int32).toInt = 3 := rfl
  have e4 : (4 : Int32).toInt = 4 := rfl
  simp only [M_Mo_value, ok_B, ok_C, ok_R, ok_L, ok_K, ok_GI, ok_GL, ok_PI, ok_PL, ok_AI, ok_AL, ok_SI, ok_SL, ok_Pr, ok_CI, cmp_lt, cmp_le, cmp_gt, cmp_ge, cmp_eq, nar0, nar1, Sum.elim_inl, Sum.elim_inr]
  refine ok_mono (rnone_ok h k) ?_
  rintro v t ⟨vt, q⟩
  refine ⟨fun z => ?_, fun _ => vt⟩
  obtain ⟨ld, k0, k1⟩ := q z
  obtain ⟨g, kr, vl⟩ := rres vt ld k0 k1
  refine ⟨kr, kr, fun c3 => ⟨fun _ => vt, fun n3 => ⟨fun c4 => ⟨?_, vt⟩, fun n4 => ⟨fun v0 => ⟨?_, vt⟩, fun _ => vt⟩⟩⟩, fun _ => vt⟩
  · rw [c4] at vl
    rcases vl with w | w | w
    · exact absurd w.2 (by decide)
    · exact absurd w.1 (by decide)
    · exact w.2.2.2.2.b g
  · have ne : (gA t 14 0 k).toInt ≠ 3 := fun y => n3 (toInt_inj y)
    rw [i32_le] at c3
    exact (vl_hi vl (by omega) v0).b g
theorem rbyteOf_ok {s : S1} {n e : Nat × Nat} (h : Vz s n e) (k i : Int32) : ok (M_Mo_byteOf_ k i) s (vlQ n e) := by
  have e0 : (0 : Int32).toInt = 0 := rfl
  simp only [M_Mo_byteOf_, M_Mo_byteOf__j48, ok_B, ok_C, ok_R, ok_L, ok_K, ok_GI, ok_GL, ok_PI, ok_PL, ok_AI, ok_AL, ok_SI, ok_SL, ok_Pr, ok_CI, cmp_lt, cmp_le, cmp_gt, cmp_ge, cmp_eq, nar0, nar1, Sum.elim_inl, Sum.elim_inr]
  refine ok_mono (rnone_ok h k) ?_
  rintro v t ⟨vt, q⟩
  refine ⟨fun z => ?_, fun _ => vt⟩
  obtain ⟨ld, k0, k1⟩ := q z
  obtain ⟨g, kr, vl⟩ := rres vt ld k0 k1
  have j53 : ∀ b : Int32, (b = 0 ∨ b = 1) → (b = 0 → Lv false t (gB t 15 0 k).toInt32 4 ∧ 0 ≤ i ∧ i < gA t 63 0 (gB t 15 0 k).toInt32) → ok (M_Mo_byteOf__j53 k i b 2) t (vlQ n e) := fun b hb hc => by
    simp only [M_Mo_byteOf__j53, ok_B, ok_C, ok_R, ok_L, ok_K, ok_GI, ok_GL, ok_PI, ok_PL, ok_AI, ok_AL, ok_SI, ok_SL, ok_Pr, ok_CI, cmp_lt, cmp_le, cmp_gt, cmp_ge, cmp_eq, nar0, nar1, Sum.elim_inl, Sum.elim_inr]
    refine ok_mono (rrefuse_ok vt 2 b hb) ?_
    rintro v u ⟨ev, vu, st⟩
    refine ⟨fun z => ?_, fun _ => vu⟩
    have b0 : b = 0 := ev.symm.trans z
    obtain ⟨l4, i0, i1⟩ := hc b0
    rw [st b0]
    obtain ⟨s1, s2, s3, s4⟩ := str_in g l4
    refine ⟨kr, s4, ?_, vt⟩
    simp only [a_first, a_second] at s1 s2 s3
    simp only [i32_le, i32_lt] at *
    have e4 : (400000 : Int32).toInt = 400000 := rfl
    have q1 := tI_add (a := gA t 62 0 (gB t 15 0 k).toInt32) (b := gA t 63 0 (gB t 15 0 k).toInt32) (by omega)
    have q2 := tI_add (a := gA t 62 0 (gB t 15 0 k).toInt32) (b := i) (by omega)
    omega
  refine ⟨kr, fun c4 => ?_, fun _ => j53 1 (.inr rfl) (fun y => absurd y (by decide))⟩
  have l4 : Lv false t (gB t 15 0 k).toInt32 4 := by
    rw [c4] at vl
    rcases vl with w | w | w
    · exact absurd w.2 (by decide)
    · exact absurd w.1 (by decide)
    · exact w.2.2.2.2
  refine ⟨fun _ => j53 1 (.inr rfl) (fun y => absurd y (by decide)), fun c => ⟨kr, l4.b g, fun c2 => j53 0 (.inl rfl) (fun _ => ⟨l4, Int32.not_lt.mp c, c2⟩), fun _ => j53 1 (.inr rfl) (fun y => absurd y (by decide))⟩⟩
theorem routput_ok {s : S1} {n e : Nat × Nat} (h : Vz s n e) (i : Int32) : ok (M_Mo_output i) s (vlQ n e) := by
  have e0 : (0 : Int32).toInt = 0 := rfl
  have e2 : (20000 : Int32).toInt = 20000 := rfl
  have j31 : ∀ b : Int32, (b = 0 ∨ b = 1) → (b = 0 → 0 ≤ i ∧ i < 20000) → ok (M_Mo_output_j31 i b 1) (sI s 2 0 0) (vlQ n e) := fun b hb hc => by
    simp only [M_Mo_output_j31, ok_B, ok_C, ok_R, ok_L, ok_K, ok_GI, ok_GL, ok_PI, ok_PL, ok_AI, ok_AL, ok_SI, ok_SL, ok_Pr, ok_CI, cmp_lt, cmp_le, cmp_gt, cmp_ge, cmp_eq, nar0, nar1, Sum.elim_inl, Sum.elim_inr]
    refine ok_mono (rrefuse_ok (h.t2 0) 1 b hb) ?_
    rintro v t ⟨ev, vt, st⟩
    exact ⟨fun z => ⟨hc (ev.symm.trans z), vt⟩, fun _ => vt⟩
  simp only [M_Mo_output, M_Mo_output_j26, ok_B, ok_C, ok_R, ok_L, ok_K, ok_GI, ok_GL, ok_PI, ok_PL, ok_AI, ok_AL, ok_SI, ok_SL, ok_Pr, ok_CI, cmp_lt, cmp_le, cmp_gt, cmp_ge, cmp_eq, nar0, nar1, Sum.elim_inl, Sum.elim_inr]
  refine ⟨fun _ => j31 1 (.inr rfl) (fun z => absurd z (by decide)), fun ld => ⟨fun _ => j31 1 (.inr rfl) (fun z => absurd z (by decide)), fun c => ⟨fun c2 => j31 0 (.inl rfl) (fun _ => ⟨Int32.not_lt.mp c, ?_⟩), fun _ => j31 1 (.inr rfl) (fun z => absurd z (by decide))⟩⟩⟩
  have o := (h.t2 0).2.2.2.2.2.1
  rw [i32_lt] at c2 ⊢
  omega
theorem rcount_ok {s : S1} {n e : Nat × Nat} (h : Vz s n e) (i : Int32) : ok (M_Mo_count i) s (vlQ n e) := by
  have v := h.t2 0
  simp only [M_Mo_count, ok_B, ok_C, ok_R, ok_L, ok_K, ok_GI, ok_GL, ok_PI, ok_PL, ok_AI, ok_AL, ok_SI, ok_SL, ok_Pr, ok_CI, cmp_lt, cmp_le, cmp_gt, cmp_ge, cmp_eq, nar0, nar1, Sum.elim_inl, Sum.elim_inr]
  refine ⟨fun _ => v, fun _ => ⟨fun _ => v, fun _ => ⟨fun _ => ⟨fun _ => v, fun ld => ?_⟩, fun _ => v⟩⟩⟩
  have g := (vz_ch v ld).gg
  iterate 8 refine ⟨fun _ => v, fun _ => ?_⟩
  exact ⟨fun _ => ⟨(g.1.1.2 g.2).1.1, v⟩, fun _ => ⟨fun _ => v, fun _ => v⟩⟩
