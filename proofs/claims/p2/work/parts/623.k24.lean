/-! The class: a key is looked for. -/
theorem kand_in (x m : Int32) (hm : 0 ≤ m) : 0 ≤ (x &&& m).toInt ∧ (x &&& m).toInt ≤ m.toInt := by
  have h0 : (0 : Int32).toInt = 0 := rfl
  have e := ofNat_clamp hm
  have lt := Int32.toInt_lt m
  have w := kand_le x m.toNatClampNeg (by unfold Int32.toNatClampNeg; omega)
  rw [e] at w
  rw [i32_le, i32_le] at w
  omega
theorem spread_ok (s : S1) (k : Int32) (v : Int64) (m : Int32) (hm : 1 ≤ m.toInt) : ok (M_Ta_spread k v m) s (fun r s' => s' = s ∧ 0 ≤ r.toInt ∧ r.toInt < m.toInt) := by
  have e1 : (1 : Int32).toInt = 1 := rfl
  have lt := Int32.toInt_lt m
  have em : (m - 1).toInt = m.toInt - 1 := by
    rw [ktI_sub] <;> omega
  simp only [M_Ta_spread, ok_B, ok_C, ok_R, ok_L, ok_K, ok_GI, ok_GL, ok_PI, ok_PL, ok_AI, ok_AL, ok_SI, ok_SL, ok_CI, cmp_lt, cmp_le, cmp_gt, cmp_ge, cmp_eq, nar0, nar1, Sum.elim_inl, Sum.elim_inr, ok_PzT, ok_PzC, ok_PzP, ok_PrC, ok_PrP, ok_PrF, ok_PrN, ok_Ln, ok_CL, ok_Nw, ok_S, ok_Ks, ok_Nz]
  refine ⟨by trivial, ?_⟩
  have w := kand_in ((lushr ((v * 8 + k.toInt64) * -7046029254386353131) (40 : Int32)).toInt32) (m - 1) (by rw [i32_le]; have : (0 : Int32).toInt = 0 := rfl; omega)
  omega
def fdQ (s : S1) (x : Int32) (r : Int32) (s' : S1) : Prop := s' = s ∧ (r = -1 ∨ ∃ i, 0 ≤ i ∧ i < cE s x ∧ r = cS0 s x + i)
theorem find_ok {s : S1} {x : Int32} (H : cHI s) (hx : cLv false s x 5) (k : Int32) (v : Int64) : ok (M_Ta_find x k v) s (fdQ s x) := by
  have e0 : (0 : Int32).toInt = 0 := rfl
  have e1 : (1 : Int32).toInt = 1 := rfl
  have em : (-1 : Int32).toInt = -1 := rfl
  have e4 : (40000 : Int32).toInt = 40000 := rfl
  have e5 : (50000 : Int32).toInt = 50000 := rfl
  have px := H.1.2 x hx.1.1 hx.1.2
  obtain ⟨⟨t1, t2, t3, t4⟩, hd, ch⟩ := (H.2.1 x hx.1.1 hx.1.2).2.2.1 hx.2.1
  obtain ⟨S, W, tp, -⟩ := H.2.2.2.2.2
  rw [i32_le, i32_le] at t1 t2 t4
  rw [i32_le, ktI_add (by omega)] at t3
  simp only [M_Ta_find, ok_B, ok_C, ok_R, ok_L, ok_K, ok_GI, ok_GL, ok_PI, ok_PL, ok_AI, ok_AL, ok_SI, ok_SL, ok_CI, cmp_lt, cmp_le, cmp_gt, cmp_ge, cmp_eq, nar0, nar1, Sum.elim_inl, Sum.elim_inr, ok_PzT, ok_PzC, ok_PzP, ok_PrC, ok_PrP, ok_PrF, ok_PrN, ok_Ln, ok_CL, ok_Nw, ok_S, ok_Ks, ok_Nz]
  refine ⟨px, fun _ => ⟨rfl, .inl rfl⟩, fun c => ?_⟩
  have rp : 1 ≤ (cR s x).toInt := by
    have : (cR s x).toInt ≠ 0 := fun w => c (toInt_inj w)
    omega
  refine ok_mono (spread_ok s k v _ rp) ?_
  rintro h s1 ⟨rfl, h0, h1⟩
  change h.toInt < (cR s1 x).toInt at h1
  have eh : (cS0 s1 x + h).toInt = (cS0 s1 x).toInt + h.toInt := by
    rw [ktI_add] <;> omega
  refine ⟨⟨by rw [i32_le]; change _ ≤ (cS0 s1 x + h).toInt; omega, by rw [i32_lt]; change (cS0 s1 x + h).toInt < _; omega⟩, ?_⟩
  have hh := hd h (by rw [i32_le]; omega) (by rw [i32_lt]; exact h1)
  rw [i32_le, i32_lt] at hh
  refine ok_W (fun y s' => s' = s1 ∧ (y.1 = k ∧ y.2.1 = v ∧ y.2.2.1 = x) ∧ (-1 ≤ y.2.2.2.1.toInt ∧ y.2.2.2.1.toInt < (cE s1 x).toInt) ∧ (0 ≤ y.2.2.2.2.toInt ∧ y.2.2.2.2.toInt ≤ (cR s1 x).toInt)) (fun y _ => ((cR s1 x).toInt - y.2.2.2.2.toInt).toNat) ?_ _ _ ⟨rfl, ⟨rfl, rfl, rfl⟩, ?_, ?_⟩
  · rintro ⟨k', v', x', en, n⟩ s2 ⟨rfl, ⟨rfl, rfl, rfl⟩, he, hn⟩
    dsimp only at he hn t1 t2 t3 t4 ch
    simp only [M_Ta_find_L47, M_Ta_find_j98, ok_B, ok_C, ok_R, ok_L, ok_K, ok_GI, ok_GL, ok_PI, ok_PL, ok_AI, ok_AL, ok_SI, ok_SL, ok_CI, cmp_lt, cmp_le, cmp_gt, cmp_ge, cmp_eq, nar0, nar1, Sum.elim_inl, Sum.elim_inr, ok_PzT, ok_PzC, ok_PzP, ok_PrC, ok_PrP, ok_PrF, ok_PrN, ok_Ln, ok_CL, ok_Nw, ok_S, ok_Ks, ok_Nz]
    refine ⟨fun _ => ⟨rfl, .inl rfl⟩, fun c => ⟨fun _ => ⟨rfl, .inl rfl⟩, fun d => ?_⟩⟩
    change ¬ cR s2 x' ≤ n at d
    rw [i32_le] at d
    rw [i32_lt] at c
    have ea : (cS0 s2 x' + en).toInt = (cS0 s2 x').toInt + en.toInt := by
      rw [ktI_add] <;> omega
    have rg : 0 ≤ cS0 s2 x' + en ∧ cS0 s2 x' + en < 50000 := by
      rw [i32_le, i32_lt]
      omega
    have e0' : 0 ≤ en := by
      rw [i32_le]
      omega
    have e1' : en < cE s2 x' := by
      rw [i32_lt]
      exact he.2
    have cc := ch en e0' e1'
    rw [i32_le, i32_lt] at cc
    have enx : (n + 1).toInt = n.toInt + 1 := by
      rw [ktI_add] <;> omega
    have nxt : (-1 ≤ (cCh s2 (cS0 s2 x' + en)).toInt ∧ (cCh s2 (cS0 s2 x' + en)).toInt < (cE s2 x').toInt) ∧ (0 ≤ (n + 1).toInt ∧ (n + 1).toInt ≤ (cR s2 x').toInt) ∧ ((cR s2 x').toInt - (n + 1).toInt).toNat < ((cR s2 x').toInt - n.toInt).toNat := by
      rw [enx]
      omega
    exact ⟨rg, fun _ => ⟨rg, fun _ => ⟨rfl, .inr ⟨en, e0', e1', rfl⟩⟩, fun _ => ⟨rg, ⟨by trivial, ⟨by trivial, by trivial, by trivial⟩, nxt.1, nxt.2.1⟩, nxt.2.2⟩⟩, fun _ => ⟨rg, ⟨by trivial, ⟨by trivial, by trivial, by trivial⟩, nxt.1, nxt.2.1⟩, nxt.2.2⟩⟩
  · show -1 ≤ (cHd s1 (cS0 s1 x + h)).toInt ∧ (cHd s1 (cS0 s1 x + h)).toInt < (cE s1 x).toInt
    omega
  · dsimp only
    omega
