/-! The new machines: what is there, what holds of them. -/
theorem eo_tot {f : Nat} {i : Int32} (hi : i.toNatClampNeg < 33) : eo f i < 1773 := by
  by_cases h0 : eoF f = 0
  · rw [eo_0 h0]; decide
  · rcases eo_rg f h0 with ⟨t, a, b⟩ | ⟨t, a, b⟩
    · rw [eo_T t h0]; omega
    · rw [eo_S t]; exact b
theorem pn_all {r : Nat} {i : Int32} (v : vd r i) : pNn 1773 r i := ⟨v, eo_tot v.i⟩
theorem prs_vd {r : Nat} {i : Int32} : prs S0 r i ↔ vd r i := by
  constructor
  · rintro ⟨h1, h2, h3⟩
    refine ⟨?_, h2, h3⟩
    cases hd : dyF r with
    | false => rfl
    | true =>
      have z : gI S0 (128 * r + 127) i = 0 := s0_127 r
      rw [z] at h1
      exact absurd (h1 hd) (by decide)
  · rintro ⟨h1, h2, h3⟩
    exact ⟨fun z => absurd (h1.symm.trans z) (by decide), h2, h3⟩
theorem wn_wd {P : PP} {q : PL} {H : Heap} (h : Wnn P q 1773 H) (c1 : q.2.1 ≤ P.2.2.2.1) (c2 : q.2.2 ≤ P.2.2.2.2) : Wd P q S0 H := by
  obtain ⟨h1, h2, h3, h4, h5, h6⟩ := h
  refine ⟨h1, h2, fun r i p => ?_, fun r i r' i' a b => h4 r i r' i' (pn_all (prs_vd.mp a)) (pn_all (prs_vd.mp b)), c1, c2, fun r i j _ => by show fits .byte (.int 0) = true; decide, fun r i a b c => prs_vd.mpr (h6 r i a b c).1, fun i hi => ?_⟩
  · have v := prs_vd.mp p
    obtain ⟨d1, d2⟩ := h3 r i (pn_all v)
    refine ⟨?_, d2, ?_⟩
    · unfold cNn at d1
      unfold cellAt
      by_cases h0 : rkF r = 0
      · rw [if_pos h0] at d1 ⊢
        refine d1.to fun k hk => ?_
        unfold fNn
        rw [if_pos (eo_tot v.i)]
      · rw [if_neg h0] at d1 ⊢
        rw [d1]
        refine congrArg some (arrV_congr fun j hj => ?_)
        unfold aN avP
        by_cases h6 : rkF r = 6
        · rw [if_pos h6, if_pos h6, if_pos (eo_tot (by decide))]
        · rw [if_neg h6, if_neg h6]
          by_cases h5 : rkF r = 5
          · rw [if_pos h5]
            obtain ⟨z1, z2⟩ := ln_r5 r v.lt h5
            unfold lnS at hj
            rw [z1] at hj
            have hj : j < 33 := hj
            rw [if_pos (eo_tot (oj_lt j hj))]
            unfold av
            rw [h5, z2]
            rfl
          · rw [if_neg h5]
    · unfold lnS
      split
      · have := Int32.toInt_lt (gI S0 (128 * r + 126) i)
        have e : (gI S0 (128 * r + 126) i).toNatClampNeg = (gI S0 (128 * r + 126) i).toInt.toNat := rfl
        omega
      · exact lnF_lt r
  · have := (prs_vd.mp hi).1
    exact absurd this (by decide)
theorem s01 {f : Nat} (h : s0I f = 0) (x : Int32) : gI S0 f x ≠ 1 := by
  show s0I f ≠ 1
  rw [h]
  decide
theorem fz_S0 {n : Nat × Nat} (h1 : 71751 ≤ n.1) (h2 : 2605202 ≤ n.2) : Fz S0 n := by
  refine ⟨⟨by decide +kernel, by decide +kernel⟩, ⟨⟨⟨⟨by decide +kernel, by decide +kernel, by decide +kernel⟩, ⟨by decide +kernel, by decide +kernel⟩, ⟨by decide +kernel, by decide +kernel⟩, ⟨by decide +kernel, by decide +kernel⟩, ⟨by decide +kernel, by decide +kernel⟩⟩, 0, 0, 0, ⟨⟨by decide +kernel, by decide +kernel, by decide +kernel⟩, fun x _ _ => ⟨fun z => absurd z (s01 rfl x), fun z => absurd z (by omega)⟩, fun x _ _ => ⟨fun z => absurd z (s01 rfl x), fun z => absurd z (by omega)⟩, fun x _ _ => ⟨fun z => absurd z (s01 rfl x), fun z => absurd z (by omega)⟩, fun x _ _ => ⟨fun _ => ⟨s01 rfl x, s01 rfl x⟩, fun z => absurd z (s01 rfl x), fun z => absurd z (s01 rfl x)⟩⟩, ?_, ?_⟩, ?_⟩, fun z => absurd rfl z⟩
  · show (cNd S0 0 0 0).1 + 0 ≤ n.1
    have : (cNd S0 0 0 0).1 = 71751 := by decide +kernel
    omega
  · show (cNd S0 0 0 0).2 + 0 ≤ n.2
    have : (cNd S0 0 0 0).2 = 2605202 := by decide +kernel
    omega
  · refine ⟨fun c _ _ => ⟨fun z => absurd z (s01 rfl c), fun _ => ?_⟩, Or.inl rfl, Or.inl rfl, Or.inl rfl, Or.inl rfl, fun f hf => ?_⟩
    · exact ⟨s01 rfl _, s01 rfl _, s01 rfl _, fun j _ _ => s01 rfl _⟩
    · exact absurd hf.2 (s01 rfl _)
theorem vz_S0 {m e : Nat × Nat} (h1 : 6 + e.1 ≤ m.1) (h2 : 1800000 + e.2 ≤ m.2) : Vz S0 m e :=
  ⟨⟨by decide +kernel, by decide +kernel⟩, ⟨⟨by decide +kernel, by decide +kernel⟩, ⟨by decide +kernel, by decide +kernel⟩, ⟨by decide +kernel, by decide +kernel⟩, by decide +kernel⟩, ⟨fun _ => 0, fun t _ _ z => absurd rfl z⟩, fun z => absurd z (by decide), ⟨by show 6 + e.1 ≤ m.1; exact h1, by show 1800000 + e.2 ≤ m.2; exact h2⟩, by decide +kernel, fun z => absurd rfl z⟩
theorem jz_S0 {n m e : Nat × Nat} (h1 : 71751 ≤ n.1) (h2 : 2605202 ≤ n.2) (h3 : 6 + e.1 ≤ m.1) (h4 : 1800000 + e.2 ≤ m.2) : Jz S0 n m e := ⟨fz_S0 h1 h2, vz_S0 h3 h4, rfl⟩
