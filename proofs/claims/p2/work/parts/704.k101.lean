/-! The class: looking over: rows, jumps. -/
/-- a check: it says yes only where W holds -/
def Dz (s : S1) (W : Prop) (r : Int32) (t : S1) : Prop := t = s ∧ (r = 0 ∨ r = 1) ∧ (r ≠ 0 → W)
/-- a question that is answered -/
def Du (s : S1) (W : Prop) (r : Int32) (t : S1) : Prop := t = s ∧ ((r = 1 ∧ W) ∨ (r = 0 ∧ ¬ W))
theorem dz0 {s : S1} {W : Prop} : Dz s W 0 s := ⟨rfl, .inl rfl, fun z => absurd rfl z⟩
theorem dz1 {s : S1} {W : Prop} (h : W) : Dz s W 1 s := ⟨rfl, .inr rfl, fun _ => h⟩
theorem uses_ok (s : S1) (w : Int32) : ok (M_Ch_usesOpenRow w) s (Du s (dUs w)) := by
  simp only [M_Ch_usesOpenRow, M_Ch_usesOpenRow_j40, M_Ch_usesOpenRow_j36, ok_B, ok_C, ok_R, ok_L, ok_K, ok_GI, ok_GL, ok_PI, ok_PL, ok_AI, ok_AL, ok_SI, ok_SL, ok_CI, cmp_lt, cmp_le, cmp_gt, cmp_ge, cmp_eq, nar0, nar1, Sum.elim_inl, Sum.elim_inr, ok_PzT, ok_PzC, ok_PzP, ok_PrC, ok_PrP, ok_PrF, ok_PrN, ok_Ln, ok_CL, ok_Nw, ok_S, ok_Ks, ok_Nz]
  have no : ∀ {P : Prop}, P → (P → ¬ dUs w) → Du s (dUs w) 0 s := fun p h => ⟨rfl, .inr ⟨rfl, h p⟩⟩
  refine ⟨fun b => ⟨fun o => ⟨rfl, .inl ⟨rfl, .inl o, b⟩⟩, fun o1 => ⟨fun o => ⟨rfl, .inl ⟨rfl, .inr (.inl o), b⟩⟩, fun o2 => ⟨fun o => ⟨rfl, .inl ⟨rfl, .inr (.inr (.inl o)), b⟩⟩, fun o3 => ⟨fun o => ⟨rfl, .inl ⟨rfl, .inr (.inr (.inr o)), b⟩⟩, fun o4 => ⟨rfl, .inr ⟨rfl, fun z => ?_⟩⟩⟩⟩⟩⟩, fun b => ⟨rfl, .inr ⟨rfl, fun z => b z.2⟩⟩⟩
  rcases z.1 with y | y | y | y
  · exact o1 y
  · exact o2 y
  · exact o3 y
  · exact o4 y
theorem opens_ok (s : S1) (w : Int32) : ok (M_Ch_opensRow w) s (Du s (dMk w)) := by
  simp only [M_Ch_opensRow, M_Ch_opensRow_j22, M_Ch_opensRow_j39, M_Ch_opensRow_j35, ok_B, ok_C, ok_R, ok_L, ok_K, ok_GI, ok_GL, ok_PI, ok_PL, ok_AI, ok_AL, ok_SI, ok_SL, ok_CI, cmp_lt, cmp_le, cmp_gt, cmp_ge, cmp_eq, nar0, nar1, Sum.elim_inl, Sum.elim_inr, ok_PzT, ok_PzC, ok_PzP, ok_PrC, ok_PrP, ok_PrF, ok_PrN, ok_Ln, ok_CL, ok_Nw, ok_S, ok_Ks, ok_Nz]
  have j22 : ¬ (dO w = 36 ∧ dC w = 0) → (dO w = 45 → (dB w = 0 → Du s (dMk w) 1 s) ∧ (¬ dB w = 0 → Du s (dMk w) 0 s)) ∧ (¬ dO w = 45 → Du s (dMk w) 0 s) := fun n => ⟨fun o => ⟨fun b => ⟨rfl, .inl ⟨rfl, .inr ⟨o, b⟩⟩⟩, fun b => ⟨rfl, .inr ⟨rfl, fun z => z.elim n (fun y => b y.2)⟩⟩⟩, fun o => ⟨rfl, .inr ⟨rfl, fun z => z.elim n (fun y => o y.1)⟩⟩⟩
  exact ⟨fun o => ⟨fun c => ⟨rfl, .inl ⟨rfl, .inl ⟨o, c⟩⟩⟩, fun c => j22 (fun z => c z.2)⟩, fun o => j22 (fun z => o z.1)⟩
/-- the code of a prototype lies where it should -/
def Cd (s : S1) (p : Int32) : Prop := 0 ≤ pKs s p ∧ 0 < pNi s p ∧ pKs s p + pNi s p ≤ 20000
theorem Cd.ix {s : S1} {p x : Int32} (h : Cd s p) (x0 : 0 ≤ x.toInt) (x1 : x.toInt < pNi s p) : 0 ≤ gI s 18440 p + x ∧ gI s 18440 p + x < 20000 := by
  have e0 : (0 : Int32).toInt = 0 := rfl
  have e2 : (20000 : Int32).toInt = 20000 := rfl
  obtain ⟨h1, h2, h3⟩ := h
  have e : (gI s 18440 p + x).toInt = pKs s p + x.toInt := ktI_add (by show -2147483648 ≤ pKs s p + x.toInt ∧ pKs s p + x.toInt < 2147483648; omega)
  exact ⟨by rw [i32_le]; omega, by rw [i32_lt]; omega⟩
theorem reach_ok {s : S1} {p x : Int32} (h : Cd s p) : ok (M_Ch_mayBeReached p x) s (Dz s (dGs s p x)) := by
  simp only [M_Ch_mayBeReached, M_Ch_mayBeReached_j33, ok_B, ok_C, ok_R, ok_L, ok_K, ok_GI, ok_GL, ok_PI, ok_PL, ok_AI, ok_AL, ok_SI, ok_SL, ok_CI, cmp_lt, cmp_le, cmp_gt, cmp_ge, cmp_eq, nar0, nar1, Sum.elim_inl, Sum.elim_inr, ok_PzT, ok_PzC, ok_PzP, ok_PrC, ok_PrP, ok_PrF, ok_PrN, ok_Ln, ok_CL, ok_Nw, ok_S, ok_Ks, ok_Nz]
  refine ⟨fun _ => dz0, fun c => ⟨fun _ => dz0, fun c2 => ?_⟩⟩
  rw [i32_lt] at c
  rw [i32_le] at c2
  have e0 : (0 : Int32).toInt = 0 := rfl
  change ¬ pNi s p ≤ x.toInt at c2
  refine ⟨h.ix (by omega) (by omega), ?_⟩
  refine ok_mono (uses_ok s _) ?_
  rintro r t ⟨et, q⟩
  rw [et]
  refine ⟨fun r0 => dz1 ⟨by omega, by omega, ?_⟩, fun _ => dz0⟩
  rcases q with ⟨q, -⟩ | ⟨-, q⟩
  · rw [q] at r0
    exact absurd r0 (by decide)
  · exact q
/-- jumps, tests and skips -/
theorem gw182 {s : S1} {p i w l5 : Int32} {W : Prop} (h : Cd s p) (k : (l5 = 0 ∨ dGs s p (i + 1 + iushr w 14 - 131071)) → W) : ok (M_Ch_goesWhereItMay_j182 p i w l5) s (Dz s W) := by
  simp only [M_Ch_goesWhereItMay_j182, M_Ch_goesWhereItMay_j206, ok_B, ok_C, ok_R, ok_L, ok_K, ok_GI, ok_GL, ok_PI, ok_PL, ok_AI, ok_AL, ok_SI, ok_SL, ok_CI, cmp_lt, cmp_le, cmp_gt, cmp_ge, cmp_eq, nar0, nar1, Sum.elim_inl, Sum.elim_inr, ok_PzT, ok_PzC, ok_PzP, ok_PrC, ok_PrP, ok_PrF, ok_PrN, ok_Ln, ok_CL, ok_Nw, ok_S, ok_Ks, ok_Nz]
  refine ⟨fun z => dz1 (k (.inl z)), fun _ => ?_⟩
  refine ok_mono (reach_ok h) ?_
  rintro r t ⟨et, -, q⟩
  rw [et]
  exact ⟨fun _ => dz0, fun z => dz1 (k (.inr (q z)))⟩
theorem gw164 {s : S1} {p i w l5 l7 : Int32} {W : Prop} (h : Cd s p) (k : (l7 = 0 ∨ dGs s p (i + 2)) → (l5 = 0 ∨ dGs s p (i + 1 + iushr w 14 - 131071)) → W) : ok (M_Ch_goesWhereItMay_j164 p i w l5 l7) s (Dz s W) := by
  simp only [M_Ch_goesWhereItMay_j164, ok_B, ok_C, ok_R, ok_L, ok_K, ok_GI, ok_GL, ok_PI, ok_PL, ok_AI, ok_AL, ok_SI, ok_SL, ok_CI, cmp_lt, cmp_le, cmp_gt, cmp_ge, cmp_eq, nar0, nar1, Sum.elim_inl, Sum.elim_inr, ok_PzT, ok_PzC, ok_PzP, ok_PrC, ok_PrP, ok_PrF, ok_PrN, ok_Ln, ok_CL, ok_Nw, ok_S, ok_Ks, ok_Nz]
  refine ⟨fun z => gw182 h (k (.inl z)), fun _ => ?_⟩
  refine ok_mono (reach_ok h) ?_
  rintro r t ⟨et, -, q⟩
  rw [et]
  exact ⟨fun _ => dz0, fun z => gw182 h (k (.inr (q z)))⟩
theorem ix1 {s : S1} {p i : Int32} : gI s 18440 p + i + 1 = gI s 18440 p + (i + 1) := by rw [Int32.add_assoc]
theorem gw136 {s : S1} {p i w l5 l6 l7 : Int32} {W : Prop} (h : Cd s p) (i0 : 0 ≤ i.toInt) (hi : l6 ≠ 0 → (i + 1).toInt < pNi s p ∧ 0 ≤ (i + 1).toInt) (k : (l7 = 0 ∨ dGs s p (i + 2)) → (l5 = 0 ∨ dGs s p (i + 1 + iushr w 14 - 131071)) → W) : ok (M_Ch_goesWhereItMay_j136 p i w l5 l6 l7) s (Dz s W) := by
  simp only [M_Ch_goesWhereItMay_j136, ok_B, ok_C, ok_R, ok_L, ok_K, ok_GI, ok_GL, ok_PI, ok_PL, ok_AI, ok_AL, ok_SI, ok_SL, ok_CI, cmp_lt, cmp_le, cmp_gt, cmp_ge, cmp_eq, nar0, nar1, Sum.elim_inl, Sum.elim_inr, ok_PzT, ok_PzC, ok_PzP, ok_PrC, ok_PrP, ok_PrF, ok_PrN, ok_Ln, ok_CL, ok_Nw, ok_S, ok_Ks, ok_Nz]
  refine ⟨fun _ => gw164 h k, fun z => ⟨?_, fun _ => gw164 h k, fun _ => dz0⟩⟩
  rw [ix1]
  exact h.ix (hi z).2 (hi z).1
theorem gw117 {s : S1} {p i w l5 l6 l7 g : Int32} {W : Prop} (h : Cd s p) (i0 : 0 ≤ i.toInt) (i1 : i.toInt < pNi s p) (hg : l6 ≠ 0 → g ≠ 0) (k : (g = 0 ∨ (i.toInt + 1 < pNi s p)) → (l7 = 0 ∨ dGs s p (i + 2)) → (l5 = 0 ∨ dGs s p (i + 1 + iushr w 14 - 131071)) → W) : ok (M_Ch_goesWhereItMay_j117 p i w l5 l6 l7 g) s (Dz s W) := by
  have e1 : (1 : Int32).toInt = 1 := rfl
  have nb := h.2.2
  have kb := h.1
  have ei : (i + 1).toInt = i.toInt + 1 := by rw [ktI_add] <;> omega
  simp only [M_Ch_goesWhereItMay_j117, ok_B, ok_C, ok_R, ok_L, ok_K, ok_GI, ok_GL, ok_PI, ok_PL, ok_AI, ok_AL, ok_SI, ok_SL, ok_CI, cmp_lt, cmp_le, cmp_gt, cmp_ge, cmp_eq, nar0, nar1, Sum.elim_inl, Sum.elim_inr, ok_PzT, ok_PzC, ok_PzP, ok_PrC, ok_PrP, ok_PrF, ok_PrN, ok_Ln, ok_CL, ok_Nw, ok_S, ok_Ks, ok_Nz]
  refine ⟨fun z => gw136 h i0 (fun y => absurd z (hg y)) (k (.inl z)), fun _ => ⟨fun c => ?_, fun _ => dz0⟩⟩
  rw [i32_lt, ei] at c
  change i.toInt + 1 < pNi s p at c
  exact gw136 h i0 (fun _ => ⟨by omega, by omega⟩) (k (.inr c))
/-- what is known of an instruction that goes where it may -/
def GW (s : S1) (p i w o : Int32) : Prop := (¬ (o = 30 ∨ o = 37 ∨ o = 38) → i.toInt + 1 < pNi s p) ∧ (31 ≤ o.toInt ∧ o.toInt ≤ 35 → dGs s p (i + 2)) ∧ (o = 3 → iushr w 14 &&& 511 ≠ 0 → dGs s p (i + 2)) ∧ (o = 30 ∨ o = 39 ∨ o = 40 ∨ o = 42 → dGs s p (i + 1 + iushr w 14 - 131071))
theorem gw89 {s : S1} {p i w o l5 l6 l7 : Int32} (h : Cd s p) (i0 : 0 ≤ i.toInt) (i1 : i.toInt < pNi s p) (h5 : (o = 30 ∨ o = 39 ∨ o = 40 ∨ o = 42) → l5 ≠ 0) (h6 : l6 ≠ 0 → 31 ≤ o.toInt ∧ o.toInt ≤ 35) (h7 : (31 ≤ o.toInt ∧ o.toInt ≤ 35) ∨ (o = 3 ∧ iushr w 14 &&& 511 ≠ 0) → l7 ≠ 0) : ok (M_Ch_goesWhereItMay_j89 p i w o l5 l6 l7) s (Dz s (GW s p i w o)) := by
  have fin : ∀ g : Int32, (¬ (o = 30 ∨ o = 37 ∨ o = 38) → g ≠ 0) → (g = 0 ∨ (i.toInt + 1 < pNi s p)) → (l7 = 0 ∨ dGs s p (i + 2)) → (l5 = 0 ∨ dGs s p (i + 1 + iushr w 14 - 131071)) → GW s p i w o := fun g hg a b c => ⟨fun z => a.elim (fun y => absurd y (hg z)) id, fun z => b.elim (fun y => absurd y (h7 (.inl z))) id, fun z y => b.elim (fun x => absurd x (h7 (.inr ⟨z, y⟩))) id, fun z => c.elim (fun y => absurd y (h5 z)) id⟩
  have n6 : o = 30 ∨ o = 37 ∨ o = 38 → l6 ≠ 0 → (0 : Int32) ≠ 0 := fun z y => by
    have w := h6 y
    rcases z with z | z | z <;> rw [z] at w <;> exact absurd w (by decide)
  simp only [M_Ch_goesWhereItMay_j89, M_Ch_goesWhereItMay_j116, ok_B, ok_C, ok_R, ok_L, ok_K, ok_GI, ok_GL, ok_PI, ok_PL, ok_AI, ok_AL, ok_SI, ok_SL, ok_CI, cmp_lt, cmp_le, cmp_gt, cmp_ge, cmp_eq, nar0, nar1, Sum.elim_inl, Sum.elim_inr, ok_PzT, ok_PzC, ok_PzP, ok_PrC, ok_PrP, ok_PrF, ok_PrN, ok_Ln, ok_CL, ok_Nw, ok_S, ok_Ks, ok_Nz]
  refine ⟨fun z => gw117 h i0 i1 (n6 (.inl z)) (fin 0 (fun y => absurd (.inl z) y)), fun z1 => ⟨fun z => gw117 h i0 i1 (n6 (.inr (.inl z))) (fin 0 (fun y => absurd (.inr (.inl z)) y)), fun z2 => ⟨fun z => gw117 h i0 i1 (n6 (.inr (.inr z))) (fin 0 (fun y => absurd (.inr (.inr z)) y)), fun z3 => gw117 h i0 i1 (fun _ => by decide) (fin 1 (fun _ => by decide))⟩⟩⟩
theorem gw39 {s : S1} {p i w o l5 : Int32} (h : Cd s p) (i0 : 0 ≤ i.toInt) (i1 : i.toInt < pNi s p) (h5 : (o = 30 ∨ o = 39 ∨ o = 40 ∨ o = 42) → l5 ≠ 0) : ok (M_Ch_goesWhereItMay_j39 p i w o l5) s (Dz s (GW s p i w o)) := by
  have e30 : (30 : Int32).toInt = 30 := rfl
  have e36 : (36 : Int32).toInt = 36 := rfl
  have j59 : ¬ (31 ≤ o.toInt ∧ o.toInt ≤ 35) → ok (M_Ch_goesWhereItMay_j59 p i w o l5) s (Dz s (GW s p i w o)) := fun nt => by
    simp only [M_Ch_goesWhereItMay_j59, M_Ch_goesWhereItMay_j60, M_Ch_goesWhereItMay_j84, M_Ch_goesWhereItMay_j88, ok_B, ok_C, ok_R, ok_L, ok_K, ok_GI, ok_GL, ok_PI, ok_PL, ok_AI, ok_AL, ok_SI, ok_SL, ok_CI, cmp_lt, cmp_le, cmp_gt, cmp_ge, cmp_eq, nar0, nar1, Sum.elim_inl, Sum.elim_inr, ok_PzT, ok_PzC, ok_PzP, ok_PrC, ok_PrP, ok_PrF, ok_PrN, ok_Ln, ok_CL, ok_Nw, ok_S, ok_Ks, ok_Nz]
    exact ⟨fun _ => ⟨fun o3 => ⟨fun c0 => gw89 h i0 i1 h5 (fun z => absurd rfl z) (fun z => z.elim (fun y => absurd y nt) (fun y => absurd c0 y.2)), fun c0 => gw89 h i0 i1 h5 (fun z => absurd rfl z) (fun _ => by decide)⟩, fun o3 => gw89 h i0 i1 h5 (fun z => absurd rfl z) (fun z => z.elim (fun y => absurd y nt) (fun y => absurd y.1 o3))⟩, fun z => absurd trivial z⟩
  simp only [M_Ch_goesWhereItMay_j39, ok_B, ok_C, ok_R, ok_L, ok_K, ok_GI, ok_GL, ok_PI, ok_PL, ok_AI, ok_AL, ok_SI, ok_SL, ok_CI, cmp_lt, cmp_le, cmp_gt, cmp_ge, cmp_eq, nar0, nar1, Sum.elim_inl, Sum.elim_inr, ok_PzT, ok_PzC, ok_PzP, ok_PrC, ok_PrP, ok_PrF, ok_PrN, ok_Ln, ok_CL, ok_Nw, ok_S, ok_Ks, ok_Nz]
  refine ⟨fun c => j59 (fun z => ?_), fun c => ⟨fun c2 => j59 (fun z => ?_), fun c2 => ?_⟩⟩
  · rw [i32_le] at c
    omega
  · rw [i32_le] at c2
    omega
  · rw [i32_le] at c c2
    simp only [M_Ch_goesWhereItMay_j60, M_Ch_goesWhereItMay_j84, ok_B, ok_C, ok_R, ok_L, ok_K, ok_GI, ok_GL, ok_PI, ok_PL, ok_AI, ok_AL, ok_SI, ok_SL, ok_CI, cmp_lt, cmp_le, cmp_gt, cmp_ge, cmp_eq, nar0, nar1, Sum.elim_inl, Sum.elim_inr, ok_PzT, ok_PzC, ok_PzP, ok_PrC, ok_PrP, ok_PrF, ok_PrN, ok_Ln, ok_CL, ok_Nw, ok_S, ok_Ks, ok_Nz]
    exact ⟨fun z => absurd z (by decide), fun _ => gw89 h i0 i1 h5 (fun _ => ⟨by omega, by omega⟩) (fun _ => by decide)⟩
theorem goes_ok {s : S1} {p i w : Int32} (h : Cd s p) (i0 : 0 ≤ i.toInt) (i1 : i.toInt < pNi s p) : ok (M_Ch_goesWhereItMay p i w) s (Dz s (GW s p i w (dO w))) := by
  simp only [M_Ch_goesWhereItMay, M_Ch_goesWhereItMay_j34, ok_B, ok_C, ok_R, ok_L, ok_K, ok_GI, ok_GL, ok_PI, ok_PL, ok_AI, ok_AL, ok_SI, ok_SL, ok_CI, cmp_lt, cmp_le, cmp_gt, cmp_ge, cmp_eq, nar0, nar1, Sum.elim_inl, Sum.elim_inr, ok_PzT, ok_PzC, ok_PzP, ok_PrC, ok_PrP, ok_PrF, ok_PrN, ok_Ln, ok_CL, ok_Nw, ok_S, ok_Ks, ok_Nz]
  refine ⟨fun _ => gw39 h i0 i1 (fun _ => by decide), fun n1 => ⟨fun _ => gw39 h i0 i1 (fun _ => by decide), fun n2 => ⟨fun _ => gw39 h i0 i1 (fun _ => by decide), fun n3 => ⟨fun _ => gw39 h i0 i1 (fun _ => by decide), fun n4 => gw39 h i0 i1 (fun z => ?_)⟩⟩⟩⟩
  rcases z with z | z | z | z
  · exact absurd z n1
  · exact absurd z n2
  · exact absurd z n3
  · exact absurd z n4
/-- rows that are left for the next instruction -/
def KR (s : S1) (p i w : Int32) : Prop := (dMk w → dUs (dW s p (i + 1)) ∧ (dA (dW s p (i + 1))).toInt + (if dO (dW s p (i + 1)) = 38 then 0 else 1) ≤ (dA w).toInt) ∧ (dUs w → 1 ≤ i.toInt ∧ dMk (dW s p (i - 1)))
theorem keeps_ok {s : S1} {p i w : Int32} (h : Cd s p) (i0 : 0 ≤ i.toInt) (i1 : i.toInt < pNi s p) (hn : dMk w → i.toInt + 1 < pNi s p) : ok (M_Ch_keepsOpenRows p i w) s (Dz s (KR s p i w)) := by
  have e0 : (0 : Int32).toInt = 0 := rfl
  have e1 : (1 : Int32).toInt = 1 := rfl
  have nb := h.2.2
  have kb := h.1
  have ei : (i + 1).toInt = i.toInt + 1 := by rw [ktI_add] <;> omega
  have j32 : (dUs w → 1 ≤ i.toInt ∧ dMk (dW s p (i - 1))) → ok (M_Ch_keepsOpenRows_j32 p i w) s (Dz s (KR s p i w)) := fun hu => by
    simp only [M_Ch_keepsOpenRows_j32, ok_B, ok_C, ok_R, ok_L, ok_K, ok_GI, ok_GL, ok_PI, ok_PL, ok_AI, ok_AL, ok_SI, ok_SL, ok_CI, cmp_lt, cmp_le, cmp_gt, cmp_ge, cmp_eq, nar0, nar1, Sum.elim_inl, Sum.elim_inr, ok_PzT, ok_PzC, ok_PzP, ok_PrC, ok_PrP, ok_PrF, ok_PrN, ok_Ln, ok_CL, ok_Nw, ok_S, ok_Ks, ok_Nz]
    refine ok_mono (opens_ok s w) ?_
    rintro r t ⟨et, q⟩
    rw [et]
    refine ⟨fun r0 => dz1 ⟨fun z => ?_, hu⟩, fun r0 => ?_⟩
    · rcases q with ⟨q, -⟩ | ⟨-, q⟩
      · rw [q] at r0
        exact absurd r0 (by decide)
      · exact absurd z q
    · have mk : dMk w := by
        rcases q with ⟨-, q⟩ | ⟨q, -⟩
        · exact q
        · exact absurd q r0
      have n1 := hn mk
      rw [ix1]
      have j80 : ∀ k0 k1 : Int32, k1 = dA (dW s p (i + 1)) → k0.toInt = (if dO (dW s p (i + 1)) = 38 then 0 else 1) → ok (M_Ch_keepsOpenRows_j80 w (dW s p (i + 1)) k0 k1) s (Dz s (KR s p i w)) := fun k0 k1 h1 h0 => by
        have ab := dA_in (dW s p (i + 1))
        have k01 : 0 ≤ k0.toInt ∧ k0.toInt ≤ 1 := by
          rw [h0]
          split <;> omega
        have es : (k1 + k0).toInt = (dA (dW s p (i + 1))).toInt + k0.toInt := by
          rw [h1, ktI_add]
          omega
        simp only [M_Ch_keepsOpenRows_j80, M_Ch_keepsOpenRows_j108, ok_B, ok_C, ok_R, ok_L, ok_K, ok_GI, ok_GL, ok_PI, ok_PL, ok_AI, ok_AL, ok_SI, ok_SL, ok_CI, cmp_lt, cmp_le, cmp_gt, cmp_ge, cmp_eq, nar0, nar1, Sum.elim_inl, Sum.elim_inr, ok_PzT, ok_PzC, ok_PzP, ok_PrC, ok_PrP, ok_PrF, ok_PrN, ok_Ln, ok_CL, ok_Nw, ok_S, ok_Ks, ok_Nz]
        refine ok_mono (uses_ok s _) ?_
        rintro r' t' ⟨et', q'⟩
        rw [et']
        refine ⟨fun _ => dz0, fun rn => ⟨fun _ => dz0, fun c => dz1 ⟨fun _ => ⟨?_, ?_⟩, hu⟩⟩⟩
        · rcases q' with ⟨-, q'⟩ | ⟨q', -⟩
          · exact q'
          · exact absurd q' rn
        · rw [i32_lt, es, h0] at c
          exact Int.not_lt.mp c
      refine ⟨h.ix (by omega) (by omega), fun o => j80 0 _ rfl ?_, fun o => j80 1 _ rfl ?_⟩
      · rw [if_pos o]
        rfl
      · rw [if_neg o]
        rfl
  simp only [M_Ch_keepsOpenRows, ok_B, ok_C, ok_R, ok_L, ok_K, ok_GI, ok_GL, ok_PI, ok_PL, ok_AI, ok_AL, ok_SI, ok_SL, ok_CI, cmp_lt, cmp_le, cmp_gt, cmp_ge, cmp_eq, nar0, nar1, Sum.elim_inl, Sum.elim_inr, ok_PzT, ok_PzC, ok_PzP, ok_PrC, ok_PrP, ok_PrF, ok_PrN, ok_Ln, ok_CL, ok_Nw, ok_S, ok_Ks, ok_Nz]
  refine ok_mono (uses_ok s w) ?_
  rintro r t ⟨et, q⟩
  rw [et]
  refine ⟨fun r0 => j32 (fun z => ?_), fun r0 => ⟨fun _ => dz0, fun inz => ?_⟩⟩
  · rcases q with ⟨q, -⟩ | ⟨-, q⟩
    · rw [q] at r0
      exact absurd r0 (by decide)
    · exact absurd z q
  · have ip : 1 ≤ i.toInt := by
      have : i.toInt ≠ 0 := fun z => inz (toInt_inj z)
      omega
    have em : (i - 1).toInt = i.toInt - 1 := by rw [ktI_sub] <;> omega
    have ix2 : gI s 18440 p + i - 1 = gI s 18440 p + (i - 1) := by rw [Int32.sub_eq_add_neg, Int32.sub_eq_add_neg, Int32.add_assoc]
    rw [ix2]
    refine ⟨h.ix (by omega) (by omega), ?_⟩
    refine ok_mono (opens_ok s _) ?_
    rintro r2 t2 ⟨et2, q2⟩
    rw [et2]
    refine ⟨fun _ => dz0, fun r0 => j32 (fun _ => ⟨ip, ?_⟩)⟩
    rcases q2 with ⟨-, q2⟩ | ⟨q2, -⟩
    · exact q2
    · exact absurd q2 r0
