/-! Both readings: numbers. -/
theorem o64 (x : Int64) (b : Int32) : ((x <<< ((8 : Int32).toInt64 &&& 63)) ||| b.toInt64).toInt32 = (x.toInt32 <<< ((8 : Int32) &&& 31)) ||| b := by
  apply Int32.toBitVec_inj.1
  have e1 : (x <<< ((8 : Int32).toInt64 &&& 63)).toBitVec = x.toBitVec <<< 8 := rfl
  have e2 : (x.toInt32 <<< ((8 : Int32) &&& 31)).toBitVec = x.toInt32.toBitVec <<< 8 := rfl
  have key : ∀ y : BitVec 64, y.signExtend 32 = y.setWidth 32 := fun y => BitVec.signExtend_eq_setWidth_of_le y (by decide)
  have w := congrArg Int32.toBitVec (Int32.toInt32_toInt64 b)
  rw [Int64.toBitVec_toInt32, Int32.toBitVec_toInt64, key] at w
  rw [Int64.toBitVec_toInt32, Int64.toBitVec_or, Int32.toBitVec_or, e1, e2, Int64.toBitVec_toInt32, Int32.toBitVec_toInt64, key, key, BitVec.setWidth_or, BitVec.setWidth_shiftLeft_of_le (by decide), w]
theorem sI_sI (s : S1) (f : Nat) (i x y : Int32) : sI (sI s f i x) f i y = sI s f i y := by
  refine Prod.ext ?_ rfl
  funext g j
  show (if g = f ∧ j = i then y else (if g = f ∧ j = i then x else s.1 g j)) = (if g = f ∧ j = i then y else s.1 g j)
  split <;> rfl
theorem sI_self (s : S1) (f : Nat) (i x : Int32) (h : gI s f i = x) : sI s f i x = s := by
  refine Prod.ext ?_ rfl
  funext g j
  show (if g = f ∧ j = i then x else s.1 g j) = s.1 g j
  by_cases c : g = f ∧ j = i
  · rw [if_pos c, c.1, c.2]
    exact h.symm
  · rw [if_neg c]
/-- place and length agree, the bytes ahead too, and no fault is told -/
def Rn5 (s t : S1) : Prop := gI s 12942 0 = gI t 28 0 ∧ gI s 12941 0 = gI t 1 0 ∧ Ar s ∧ (∀ j : Int32, 0 ≤ j.toInt → j.toInt < rLn s → gA s 108 0 j = gA t 41 0 j) ∧ (gI s 12943 0 = 0 ∧ gI s 12944 0 = gI t 4 0) ∧ gI t 3 0 = 0
/-- the same fault is told -/
def Ff (s t : S1) : Prop := gI t 3 0 ≠ 0 ∧ gI s 12943 0 = gI t 3 0 ∧ gI s 12944 0 = gI t 4 0
theorem Ff.sk {s t u : S1} (h : Ff s t) (k : Srk t u) : Ff s u := by
  obtain ⟨a, b, c⟩ := h
  obtain ⟨d, e⟩ := k a
  exact ⟨by rw [d]; exact a, b.trans d.symm, c.trans e.symm⟩
/-- what behind a number holds in both: it was read, or both tell that the tape is too short -/
def nuG (s t : S1) (k v : Int32) (s' : S1) (w : Int64) (t' : S1) : Prop := rAt s + k.toInt ≤ rLn s ∧ w.toInt32 = v ∧ s' = sI s 12942 0 (gI s 12942 0 + k) ∧ t' = sI (sI t 29 0 (gI t 28 0)) 28 0 (gI t 28 0 + k) ∧ (k = 1 → 0 ≤ v.toInt ∧ v.toInt ≤ 255) ∧ (k = 2 → 0 ≤ v.toInt ∧ v.toInt ≤ 65535)
def nuB (s t : S1) (k v : Int32) (s' : S1) (w : Int64) (t' : S1) : Prop := rLn s < rAt s + k.toInt ∧ v = -1 ∧ w = 0 ∧ s' = sI (sI s 12943 0 1) 12944 0 (gI s 12942 0) ∧ t' = sI (sI (sI t 29 0 (gI t 28 0)) 3 0 1) 4 0 (gI t 28 0)
def nuI (s t : S1) (k : Int32) (x : Int32 × Int32 × Int32) (s' : S1) (y : Int32 × Int64 × Int32) (t' : S1) : Prop := ∃ i : Nat, (i : Int) ≤ k.toInt ∧ x.1 = k ∧ y.1 = k ∧ x.2.2 = Int32.ofNat i ∧ y.2.2 = Int32.ofNat i ∧ y.2.1.toInt32 = x.2.1 ∧ s' = s ∧ t' = sI t 28 0 (gI t 28 0 + Int32.ofNat i)
theorem ofN1 (i : Nat) : Int32.ofNat i + 1 = Int32.ofNat (i + 1) := (Int32.ofNat_add i 1).symm
theorem nuL {s t : S1} {k : Int32} (hk : 0 ≤ k.toInt ∧ k.toInt ≤ 8) (h1 : gI s 12942 0 = gI t 28 0) (ha : Ar s) (l : rAt s + k.toInt ≤ rLn s) (tp : ∀ j : Int32, 0 ≤ j.toInt → j.toInt < rLn s → gA s 108 0 j = gA t 41 0 j) : hu (oW M_Ch_readNumber_L29 (k, 0, 0)) s (fun e s' => hu (oW M_Mo_number_L47 (k, 0, 0)) t (fun w t' => e.1 = k ∧ w.toInt32 = e.2 ∧ s' = s ∧ t' = sI t 28 0 (gI t 28 0 + k))) := by
  obtain ⟨a1, a2, a3⟩ := ha
  have ra : (gI s 12942 0).toInt = rAt s := rfl
  have rl : (gI s 12941 0).toInt = rLn s := rfl
  refine hu2W (nuI s t k) ?_ _ s _ t ⟨0, hk.1, rfl, rfl, rfl, rfl, rfl, rfl, (sI_self _ _ _ _ (by show gI t 28 0 = gI t 28 0 + 0; rw [Int32.add_zero])).symm⟩
  rintro ⟨x1, x2, x3⟩ s1 ⟨y1, y2, y3⟩ t1 ⟨i, hi, ex1, ey1, ex3, ey3, exy, es, et⟩
  dsimp only at ex1 ey1 ex3 ey3 exy
  subst ex1 ey1 ex3 ey3
  have oi : (Int32.ofNat i).toInt = (i : Int) := oI (by omega)
  have g28 : gI t1 28 0 = gI t 28 0 + Int32.ofNat i := by rw [et, gI_sI, if_pos ⟨rfl, rfl⟩]
  simp only [M_Ch_readNumber_L29, hu_B, hu_C, hu_R, hu_L, hu_GI, hu_AI, Sum.elim_inl, Sum.elim_inr]
  refine ⟨fun c => ?_, fun c => ?_⟩
  · rw [hu_Wu]
    simp only [M_Mo_number_L47, hu_B, hu_C, hu_R, hu_L, hu_GI, hu_AI, hu_PI, Sum.elim_inl, Sum.elim_inr]
    refine ⟨fun _ => ⟨trivial, exy, es, ?_⟩, fun d => absurd c d⟩
    have ek : Int32.ofNat i = y1 := toInt_inj (by rw [i32_le] at c; omega)
    rw [et, ek]
  · rw [es]
    intro b
    simp only [M_Mo_number_L47, hu_B, hu_C, hu_R, hu_L, hu_GI, hu_AI, hu_PI, Sum.elim_inl, Sum.elim_inr]
    refine ⟨fun d => absurd d c, fun _ b2 => ?_⟩
    rw [i32_le] at c
    have hlt : (i : Int) < y1.toInt := by omega
    refine ⟨i + 1, by omega, rfl, rfl, ofN1 i, ofN1 i, ?_, rfl, ?_⟩
    · have e8 : gA (sI t1 28 0 (gI t1 28 0 + 1)) 41 0 (gI t1 28 0) = gA s 108 0 (gI s 12942 0 + Int32.ofNat i) := by
        show gA t1 41 0 (gI t1 28 0) = _
        rw [g28, h1, et]
        refine (tp _ ?_ ?_).symm
        · rw [← h1, ktI_add, oi] <;> omega
        · rw [← h1, ktI_add, oi] <;> omega
      show ((y2 <<< ((8 : Int32).toInt64 &&& 63)) ||| (gA (sI t1 28 0 (gI t1 28 0 + 1)) 41 0 (gI t1 28 0) &&& 255).toInt64).toInt32 = _
      rw [o64, exy, e8]
    · rw [g28, et, sI_sI, ← ofN1 i, Int32.add_assoc]
theorem num2 {s t : S1} {k : Int32} (hk : 0 ≤ k.toInt ∧ k.toInt ≤ 4) (h : Rn5 s t) : hu (M_Ch_readNumber k) s (fun v s' => hu (M_Mo_number k) t (fun w t' => nuG s t k v s' w t' ∨ nuB s t k v s' w t')) := by
  obtain ⟨h1, h2, ha, tp, h5, h6⟩ := h
  obtain ⟨a1, a2, a3⟩ := id ha
  have ra : (gI s 12942 0).toInt = rAt s := rfl
  have rl : (gI s 12941 0).toInt = rLn s := rfl
  have ea : (gI s 12942 0 + k).toInt = rAt s + k.toInt := by rw [ktI_add]; omega
  have es : (gI t 1 0 - gI t 28 0).toInt = rLn s - rAt s := by
    rw [← h1, ← h2, ktI_sub]
    show -2147483648 ≤ rLn s - rAt s ∧ rLn s - rAt s < 2147483648
    omega
  simp only [M_Ch_readNumber, M_Ch_refuse, hu_B, hu_C, hu_R, hu_GI, hu_PI]
  refine ⟨fun c => ?_, fun c => ?_⟩
  · rw [i32_le, ea] at c
    have b := (numL_ok hk ha c).det
    intro e s' E v' t' E2
    have hv := b e s' E
    simp only [M_Mo_number] at E2
    have z : hu (M_Mo_number k) t (fun w t' => nuG s t k e.2 (sI s' 12942 0 (gI s' 12942 0 + e.1)) w t' ∨ nuB s t k e.2 (sI s' 12942 0 (gI s' 12942 0 + e.1)) w t') := by
      simp only [M_Mo_number, hu_B, hu_C, hu_R, hu_GI, hu_PI]
      refine ⟨fun _ => ⟨fun d => ?_, fun d => absurd (by rw [i32_le]; show k.toInt ≤ (gI t 1 0 - gI t 28 0).toInt; rw [es]; omega) d⟩, fun d => absurd h6 d⟩
      have w := nuL (s := s) (t := sI t 29 0 (gI t 28 0)) (k := k) ⟨hk.1, by omega⟩ h1 ha c tp e s' E
      refine hu_mono w ?_
      rintro w t2 ⟨q1, q2, q3, q4⟩
      refine .inl ⟨c, q2, ?_, ?_, fun z => hv.2.2.1 (by rw [z]; rfl), fun z => hv.2.2.2 (by rw [z]; rfl)⟩
      · rw [q3, q1]
      · exact q4
    exact z v' t' E2
  · rw [i32_le, ea] at c
    simp only [M_Mo_number, M_Mo_bad, hu_B, hu_C, hu_R, hu_GI, hu_PI]
    refine ⟨fun _ => ⟨fun d => ?_, fun d => ⟨fun _ => .inr ⟨by omega, rfl, rfl, rfl, rfl⟩, fun n => ?_⟩⟩, fun d => absurd h6 d⟩
    · rw [i32_le] at d
      have d : k.toInt ≤ (gI t 1 0 - gI t 28 0).toInt := d
      omega
    · exact absurd (by rw [gI_sI, if_neg (fun z => absurd z.1 (by decide))]; exact h6) n
