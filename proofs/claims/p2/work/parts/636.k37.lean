/-! The class: rows of values. -/
abbrev rwS (s : S1) (r : Nat) : Int32 := gI s (128 * r + 2) 0
abbrev rwK (s : S1) (r : Nat) (i : Int32) : Int32 := gA s (r + 1) 0 i
abbrev rwV (s : S1) (r : Nat) (i : Int32) : Int64 := gB s (r + 2) 0 i
def cRow (L : Int32 → Int32 → Prop) (s : S1) (r : Nat) : Prop := cRw L s (r + 1) (r + 2) (128 * r + 2)
theorem cRow.n {L : Int32 → Int32 → Prop} {s : S1} {r : Nat} (h : cRow L s r) : 0 ≤ (rwS s r).toInt ∧ (rwS s r).toInt ≤ 512 := by
  have := h.1
  rw [i32_le, i32_le] at this
  exact this
/-- only the row has changed -/
def cRx (r : Nat) (s t : S1) : Prop := (∀ f j, f ≠ 128 * r + 2 → gI t f j = gI s f j) ∧ (∀ f j, gL t f j = gL s f j) ∧ (∀ a j k, a ≠ r + 1 → gA t a j k = gA s a j k) ∧ ∀ a j k, a ≠ r + 2 → gB t a j k = gB s a j k
theorem cRx.refl (r : Nat) (s : S1) : cRx r s s := ⟨fun _ _ _ => rfl, fun _ _ => rfl, fun _ _ _ _ => rfl, fun _ _ _ _ => rfl⟩
theorem cRx.trans {r : Nat} {s t u : S1} (a : cRx r s t) (b : cRx r t u) : cRx r s u := ⟨fun f j p => (b.1 f j p).trans (a.1 f j p), fun f j => (b.2.1 f j).trans (a.2.1 f j), fun f j k p => (b.2.2.1 f j k p).trans (a.2.2.1 f j k p), fun f j k p => (b.2.2.2 f j k p).trans (a.2.2.2 f j k p)⟩
theorem rClear_ok (r : Nat) (s : S1) : ok (M_Ro_clear r 0) s (fun _ t => cRx r s t ∧ rwS t r = 0) := by
  simp only [M_Ro_clear, ok_B, ok_C, ok_R, ok_L, ok_K, ok_GI, ok_GL, ok_PI, ok_PL, ok_AI, ok_AL, ok_SI, ok_SL, ok_CI, cmp_lt, cmp_le, cmp_gt, cmp_ge, cmp_eq, nar0, nar1, Sum.elim_inl, Sum.elim_inr, ok_PzT, ok_PzC, ok_PzP, ok_PrC, ok_PrP, ok_PrF, ok_PrN, ok_Ln, ok_CL, ok_Nw, ok_S, ok_Ks, ok_Nz]
  refine ⟨⟨fun f j q => ?_, fun _ _ => rfl, fun _ _ _ _ => rfl, fun _ _ _ _ => rfl⟩, ?_⟩
  · rw [gI_sI, if_neg (fun z => q z.1)]
  · rw [show rwS _ r = gI _ (128 * r + 2) 0 from rfl, gI_sI, if_pos ⟨rfl, rfl⟩]
def raQ (L : Int32 → Int32 → Prop) (r : Nat) (k : Int32) (v : Int64) (s t : S1) : Prop := cRx r s t ∧ cRow L t r ∧ ((rwS s r).toInt < 512 → (rwS t r).toInt = (rwS s r).toInt + 1 ∧ rwK t r (rwS s r) = k ∧ rwV t r (rwS s r) = v ∧ ∀ i, i ≠ rwS s r → rwK t r i = rwK s r i ∧ rwV t r i = rwV s r i) ∧ (rwS t r).toInt ≤ (rwS s r).toInt + 1
theorem rAdd_ok {L : Int32 → Int32 → Prop} {r : Nat} {s : S1} {k : Int32} {v : Int64} (h : cRow L s r) (hv : cV L k v) : ok (M_Ro_add r 0 k v) s (fun _ t => raQ L r k v s t) := by
  have e0 : (0 : Int32).toInt = 0 := rfl
  have e1 : (1 : Int32).toInt = 1 := rfl
  have e5 : (512 : Int32).toInt = 512 := rfl
  have hn := h.n
  simp only [M_Ro_add, ok_B, ok_C, ok_R, ok_L, ok_K, ok_GI, ok_GL, ok_PI, ok_PL, ok_AI, ok_AL, ok_SI, ok_SL, ok_CI, cmp_lt, cmp_le, cmp_gt, cmp_ge, cmp_eq, nar0, nar1, Sum.elim_inl, Sum.elim_inr, ok_PzT, ok_PzC, ok_PzP, ok_PrC, ok_PrP, ok_PrF, ok_PrN, ok_Ln, ok_CL, ok_Nw, ok_S, ok_Ks, ok_Nz, n8 hv.kr]
  refine ⟨fun c => ⟨cRx.refl r s, h, fun q => ?_, by omega⟩, fun c => ?_⟩
  · rw [i32_le] at c
    change _ ≤ (rwS s r).toInt at c
    omega
  · rw [i32_le] at c
    change ¬ _ ≤ (rwS s r).toInt at c
    have hi : 0 ≤ rwS s r ∧ rwS s r < 512 := by
      rw [i32_le, i32_lt]
      omega
    have ei : (rwS s r + 1).toInt = (rwS s r).toInt + 1 := by rw [ktI_add] <;> omega
    have key : ∀ T : S1, (∀ f j, gI T f j = if f = 128 * r + 2 ∧ j = 0 then rwS s r + 1 else gI s f j) → (∀ f j, gL T f j = gL s f j) → (∀ a j i, gA T a j i = if a = r + 1 ∧ j = 0 ∧ i = rwS s r then k else gA s a j i) → (∀ a j i, gB T a j i = if a = r + 2 ∧ j = 0 ∧ i = rwS s r then v else gB s a j i) → raQ L r k v s T := fun T TI TL TA TB => by
      have tS : rwS T r = rwS s r + 1 := (TI _ _).trans (if_pos ⟨rfl, rfl⟩)
      have cont : ∀ i, i ≠ rwS s r → rwK T r i = rwK s r i ∧ rwV T r i = rwV s r i := fun i q => ⟨(TA _ _ _).trans (if_neg (fun z => q z.2.2)), (TB _ _ _).trans (if_neg (fun z => q z.2.2))⟩
      have at_ : rwK T r (rwS s r) = k ∧ rwV T r (rwS s r) = v := ⟨(TA _ _ _).trans (if_pos ⟨rfl, rfl, rfl⟩), (TB _ _ _).trans (if_pos ⟨rfl, rfl, rfl⟩)⟩
      refine ⟨⟨fun f j q => ?_, TL, fun a j i q => ?_, fun a j i q => ?_⟩, ⟨?_, fun i i0 i1 => ?_⟩, fun _ => ⟨by rw [tS, ei], at_.1, at_.2, cont⟩, by rw [tS, ei]; omega⟩
      · rw [TI, if_neg (fun z => q z.1)]
      · rw [TA, if_neg (fun z => q z.1)]
      · rw [TB, if_neg (fun z => q z.1)]
      · show 0 ≤ rwS T r ∧ rwS T r ≤ 512
        rw [tS, i32_le, i32_le]
        omega
      · change i < rwS T r at i1
        rw [tS, i32_lt, ei] at i1
        show cV L (rwK T r i) (rwV T r i)
        by_cases q : i = rwS s r
        · rw [q, at_.1, at_.2]
          exact hv
        · rw [(cont i q).1, (cont i q).2]
          have : i.toInt ≠ (rwS s r).toInt := fun z => q (toInt_inj z)
          exact h.2 i i0 (by show i < rwS s r; rw [i32_lt]; omega)
    refine ⟨hi, hi, key _ (fun f j => ?_) (fun _ _ => rfl) (fun a j i => ?_) (fun a j i => ?_)⟩
    · simp only [gI_sI, gI_sB, gI_sA]
    · simp only [gA_sI, gA_sB, gA_sA, gI_sA]
    · simp only [gB_sI, gB_sB, gB_sA, gI_sA]
def rfQ (L : Int32 → Int32 → Prop) (r : Nat) (k : Int32) (v : Int64) (s t : S1) : Prop := cRx r s t ∧ cRow L t r ∧ ((rwS s r).toInt < 512 → (rwS t r).toInt = (rwS s r).toInt + 1 ∧ rwK t r 0 = k ∧ rwV t r 0 = v) ∧ (rwS t r).toInt ≤ (rwS s r).toInt + 1
theorem rFirst_ok {L : Int32 → Int32 → Prop} {r : Nat} {s : S1} {k : Int32} {v : Int64} (h : cRow L s r) (hv : cV L k v) : ok (M_Ro_addFirst r 0 k v) s (fun _ t => rfQ L r k v s t) := by
  have e0 : (0 : Int32).toInt = 0 := rfl
  have e1 : (1 : Int32).toInt = 1 := rfl
  have e5 : (512 : Int32).toInt = 512 := rfl
  have hn := h.n
  simp only [M_Ro_addFirst, ok_B, ok_C, ok_R, ok_L, ok_K, ok_GI, ok_GL, ok_PI, ok_PL, ok_AI, ok_AL, ok_SI, ok_SL, ok_CI, cmp_lt, cmp_le, cmp_gt, cmp_ge, cmp_eq, nar0, nar1, Sum.elim_inl, Sum.elim_inr, ok_PzT, ok_PzC, ok_PzP, ok_PrC, ok_PrP, ok_PrF, ok_PrN, ok_Ln, ok_CL, ok_Nw, ok_S, ok_Ks, ok_Nz, n8 hv.kr]
  refine ⟨fun c => ⟨cRx.refl r s, h, fun q => ?_, by omega⟩, fun c => ?_⟩
  · rw [i32_le] at c
    change _ ≤ (rwS s r).toInt at c
    omega
  · rw [i32_le] at c
    change ¬ _ ≤ (rwS s r).toInt at c
    have ei : (rwS s r + 1).toInt = (rwS s r).toInt + 1 := by rw [ktI_add] <;> omega
    have e' : ((1 : Int32) + rwS s r).toInt = (rwS s r).toInt + 1 := by rw [ktI_add] <;> omega
    have s1 : ((512 : Int32) - 0).toInt = 512 := rfl
    have s2 : ((512 : Int32) - 1).toInt = 511 := rfl
    have cc : (0 : Int32) ≤ 0 ∧ (0 : Int32) ≤ 1 ∧ 0 ≤ rwS s r ∧ (0 : Int32) ≤ 512 ∧ rwS s r ≤ 512 - 0 ∧ (1 : Int32) ≤ 512 ∧ rwS s r ≤ 512 - 1 := by
      refine ⟨by decide, by decide, ?_, by decide, ?_, by decide, ?_⟩
      · rw [i32_le]
        omega
      · rw [i32_le, s1]
        omega
      · rw [i32_le, s2]
        omega
    have key : ∀ T : S1, (∀ f j, gI T f j = if f = 128 * r + 2 ∧ j = 0 then rwS s r + 1 else gI s f j) → (∀ f j, gL T f j = gL s f j) → (∀ a j i, a ≠ r + 1 → gA T a j i = gA s a j i) → (∀ a j i, a ≠ r + 2 → gB T a j i = gB s a j i) → (∀ i, rwK T r i = if i = 0 then k else if 1 ≤ i ∧ i < 1 + rwS s r then rwK s r (0 + (i - 1)) else rwK s r i) → (∀ i, rwV T r i = if i = 0 then v else if 1 ≤ i ∧ i < 1 + rwS s r then rwV s r (0 + (i - 1)) else rwV s r i) → rfQ L r k v s T := fun T TI TL TA TB TK TV => by
      have tS : rwS T r = rwS s r + 1 := (TI _ _).trans (if_pos ⟨rfl, rfl⟩)
      refine ⟨⟨fun f j q => ?_, TL, TA, TB⟩, ⟨?_, fun i i0 i1 => ?_⟩, fun _ => ⟨by rw [tS, ei], by rw [TK, if_pos rfl], by rw [TV, if_pos rfl]⟩, by rw [tS, ei]; omega⟩
      · rw [TI, if_neg (fun z => q z.1)]
      · show 0 ≤ rwS T r ∧ rwS T r ≤ 512
        rw [tS, i32_le, i32_le]
        omega
      · change i < rwS T r at i1
        rw [tS, i32_lt, ei] at i1
        rw [i32_le] at i0
        show cV L (rwK T r i) (rwV T r i)
        rw [TK, TV]
        by_cases q : i = 0
        · rw [if_pos q, if_pos q]
          exact hv
        · have ne : i.toInt ≠ 0 := fun z => q (toInt_inj z)
          have c1 : 1 ≤ i ∧ i < 1 + rwS s r := by
            rw [i32_le, i32_lt, e']
            omega
          rw [if_neg q, if_neg q, if_pos c1, if_pos c1]
          have m1 : (i - 1).toInt = i.toInt - 1 := by rw [ktI_sub] <;> omega
          have m2 : (0 + (i - 1)).toInt = i.toInt - 1 := by rw [ktI_add, m1] <;> omega
          exact h.2 _ (by rw [i32_le, m2]; omega) (by show _ < rwS s r; rw [i32_lt, m2]; omega)
    refine ⟨cc, cc, ⟨by decide, by decide⟩, ⟨by decide, by decide⟩, key _ (fun f j => ?_) (fun _ _ => rfl) (fun a j i q => ?_) (fun a j i q => ?_) (fun i => ?_) (fun i => ?_)⟩
    · simp only [gI_sI, gI_sB, gI_sA, gI_sBf, gI_sAf]
    · simp only [gA_sI, gA_sB, gA_sA, gA_sBf, gA_sAf, q, false_and, if_false]
    · simp only [gB_sI, gB_sB, gB_sA, gB_sBf, gB_sAf, q, false_and, if_false]
    · simp only [rwK, gA_sI, gA_sB, gA_sA, gA_sBf, gA_sAf, gI_sAf, cpI, true_and, and_self, if_true]
    · simp only [rwV, gB_sI, gB_sB, gB_sA, gB_sBf, gB_sAf, gI_sAf, cpL, true_and, and_self, if_true]
def mxQ (a b : Int32) (s : S1) (r : Int32) (s' : S1) : Prop := s' = s ∧ (r = a ∨ r = b) ∧ a.toInt ≤ r.toInt ∧ b.toInt ≤ r.toInt
def mnQ (a b : Int32) (s : S1) (r : Int32) (s' : S1) : Prop := s' = s ∧ (r = a ∨ r = b) ∧ r.toInt ≤ a.toInt ∧ r.toInt ≤ b.toInt
theorem kmax_ok (a b : Int32) (s : S1) : ok (M_Mth_max a b) s (mxQ a b s) := by
  simp only [M_Mth_max, ok_B, ok_C, ok_R, ok_L, ok_K, ok_GI, ok_GL, ok_PI, ok_PL, ok_AI, ok_AL, ok_SI, ok_SL, ok_CI, cmp_lt, cmp_le, cmp_gt, cmp_ge, cmp_eq, nar0, nar1, Sum.elim_inl, Sum.elim_inr, ok_PzT, ok_PzC, ok_PzP, ok_PrC, ok_PrP, ok_PrF, ok_PrN, ok_Ln, ok_CL, ok_Nw, ok_S, ok_Ks, ok_Nz]
  refine ⟨fun c => ?_, fun c => ?_⟩
  · rw [i32_lt] at c
    exact ⟨rfl, .inr rfl, by omega, by omega⟩
  · rw [i32_lt] at c
    exact ⟨rfl, .inl rfl, by omega, by omega⟩
theorem kmin_ok (a b : Int32) (s : S1) : ok (M_Mth_min a b) s (mnQ a b s) := by
  simp only [M_Mth_min, ok_B, ok_C, ok_R, ok_L, ok_K, ok_GI, ok_GL, ok_PI, ok_PL, ok_AI, ok_AL, ok_SI, ok_SL, ok_CI, cmp_lt, cmp_le, cmp_gt, cmp_ge, cmp_eq, nar0, nar1, Sum.elim_inl, Sum.elim_inr, ok_PzT, ok_PzC, ok_PzP, ok_PrC, ok_PrP, ok_PrF, ok_PrN, ok_Ln, ok_CL, ok_Nw, ok_S, ok_Ks, ok_Nz]
  refine ⟨fun c => ?_, fun c => ?_⟩
  · rw [i32_lt] at c
    exact ⟨rfl, .inr rfl, by omega, by omega⟩
  · rw [i32_lt] at c
    exact ⟨rfl, .inl rfl, by omega, by omega⟩
def rdQ (L : Int32 → Int32 → Prop) (r : Nat) (s t : S1) : Prop := cRx r s t ∧ cRow L t r ∧ (rwS t r).toInt ≤ (rwS s r).toInt
theorem rDrop_ok {L : Int32 → Int32 → Prop} {r : Nat} {s : S1} {m : Int32} (h : cRow L s r) (hm : 0 ≤ m.toInt) : ok (M_Ro_dropFirst r 0 m) s (fun _ t => rdQ L r s t) := by
  have e0 : (0 : Int32).toInt = 0 := rfl
  have e5 : (512 : Int32).toInt = 512 := rfl
  have hn := h.n
  have lm := Int32.toInt_lt m
  simp only [M_Ro_dropFirst, ok_B, ok_C, ok_R, ok_L, ok_K, ok_GI, ok_GL, ok_PI, ok_PL, ok_AI, ok_AL, ok_SI, ok_SL, ok_CI, cmp_lt, cmp_le, cmp_gt, cmp_ge, cmp_eq, nar0, nar1, Sum.elim_inl, Sum.elim_inr, ok_PzT, ok_PzC, ok_PzP, ok_PrC, ok_PrP, ok_PrF, ok_PrN, ok_Ln, ok_CL, ok_Nw, ok_S, ok_Ks, ok_Nz]
  refine ok_mono (kmax_ok 0 (rwS s r - m) s) ?_
  rintro l s ⟨rfl, hl, l0, l1⟩
  have e1 : (rwS s r - m).toInt = (rwS s r).toInt - m.toInt := by rw [ktI_sub] <;> omega
  have ll : l.toInt ≤ (rwS s r).toInt := by
    rcases hl with rfl | rfl
    · omega
    · omega
  have e2 : (rwS s r - l).toInt = (rwS s r).toInt - l.toInt := by rw [ktI_sub] <;> omega
  have s1 : ((512 : Int32) - (rwS s r - l)).toInt = 512 - ((rwS s r).toInt - l.toInt) := by rw [ktI_sub, e2] <;> omega
  have s2 : ((512 : Int32) - 0).toInt = 512 := rfl
  have cc : 0 ≤ rwS s r - l ∧ (0 : Int32) ≤ 0 ∧ 0 ≤ l ∧ rwS s r - l ≤ 512 ∧ l ≤ 512 - (rwS s r - l) ∧ (0 : Int32) ≤ 512 ∧ l ≤ 512 - 0 := by
    refine ⟨?_, by decide, ?_, ?_, ?_, by decide, ?_⟩
    · rw [i32_le, e2]
      omega
    · rw [i32_le]
      omega
    · rw [i32_le, e2]
      omega
    · rw [i32_le, s1]
      omega
    · rw [i32_le, s2]
      omega
  have key : ∀ T : S1, (∀ f j, gI T f j = if f = 128 * r + 2 ∧ j = 0 then l else gI s f j) → (∀ f j, gL T f j = gL s f j) → (∀ a j i, a ≠ r + 1 → gA T a j i = gA s a j i) → (∀ a j i, a ≠ r + 2 → gB T a j i = gB s a j i) → (∀ i, rwK T r i = if 0 ≤ i ∧ i < 0 + l then rwK s r (rwS s r - l + (i - 0)) else rwK s r i) → (∀ i, rwV T r i = if 0 ≤ i ∧ i < 0 + l then rwV s r (rwS s r - l + (i - 0)) else rwV s r i) → rdQ L r s T := fun T TI TL TA TB TK TV => by
    have tS : rwS T r = l := (TI _ _).trans (if_pos ⟨rfl, rfl⟩)
    refine ⟨⟨fun f j q => ?_, TL, TA, TB⟩, ⟨?_, fun i i0 i1 => ?_⟩, by rw [tS]; exact ll⟩
    · rw [TI, if_neg (fun z => q z.1)]
    · show 0 ≤ rwS T r ∧ rwS T r ≤ 512
      rw [tS, i32_le, i32_le]
      omega
    · change i < rwS T r at i1
      rw [tS] at i1
      have z : (0 : Int32) + l = l := Int32.zero_add l
      have z2 : i - 0 = i := Int32.sub_zero i
      show cV L (rwK T r i) (rwV T r i)
      rw [TK, TV, z, z2, if_pos ⟨i0, i1⟩, if_pos ⟨i0, i1⟩]
      rw [i32_le] at i0
      rw [i32_lt] at i1
      have m2 : (rwS s r - l + i).toInt = (rwS s r).toInt - l.toInt + i.toInt := by rw [ktI_add, e2] <;> omega
      exact h.2 _ (by rw [i32_le, m2]; omega) (by show _ < rwS s r; rw [i32_lt, m2]; omega)
  refine ⟨cc, cc, key _ (fun f j => ?_) (fun _ _ => rfl) (fun a j i q => ?_) (fun a j i q => ?_) (fun i => ?_) (fun i => ?_)⟩
  · simp only [gI_sI, gI_sB, gI_sA, gI_sBf, gI_sAf]
  · simp only [gA_sI, gA_sB, gA_sA, gA_sBf, gA_sAf, q, false_and, if_false]
  · simp only [gB_sI, gB_sB, gB_sA, gB_sBf, gB_sAf, q, false_and, if_false]
  · simp only [rwK, gA_sI, gA_sB, gA_sA, gA_sBf, gA_sAf, gI_sAf, cpI, true_and, and_self, if_true]
  · simp only [rwV, gB_sI, gB_sB, gB_sA, gB_sBf, gB_sAf, gI_sAf, cpL, true_and, and_self, if_true]
/-- two rows have changed -/
def cRy (r q : Nat) (s t : S1) : Prop := (∀ f j, f ≠ 128 * r + 2 ∧ f ≠ 128 * q + 2 → gI t f j = gI s f j) ∧ (∀ f j, gL t f j = gL s f j) ∧ (∀ a j k, a ≠ r + 1 → gA t a j k = gA s a j k) ∧ ∀ a j k, a ≠ r + 2 → gB t a j k = gB s a j k
def rtQ (L : Int32 → Int32 → Prop) (r q : Nat) (s t : S1) : Prop := cRy r q s t ∧ cRow L t r ∧ rwS t r = rwS s q ∧ rwS t q = 0
theorem rTake_ok {L : Int32 → Int32 → Prop} {r q : Nat} {s : S1} (hrq : r ≠ q) (h : cRow L s q) : ok (M_Ro_takeAll r 0 q 0) s (fun _ t => rtQ L r q s t) := by
  have e0 : (0 : Int32).toInt = 0 := rfl
  have e5 : (512 : Int32).toInt = 512 := rfl
  have hn := h.n
  have s2 : ((512 : Int32) - 0).toInt = 512 := rfl
  have ne2 : ¬ (128 * r + 2 = 128 * q + 2) := by omega
  have ne3 : ¬ (128 * q + 2 = 128 * r + 2) := by omega
  have cc : (0 : Int32) ≤ 0 ∧ (0 : Int32) ≤ 0 ∧ 0 ≤ rwS s q ∧ (0 : Int32) ≤ 512 ∧ rwS s q ≤ 512 - 0 ∧ (0 : Int32) ≤ 512 ∧ rwS s q ≤ 512 - 0 := by
    refine ⟨by decide, by decide, ?_, by decide, ?_, by decide, ?_⟩
    · rw [i32_le]
      omega
    · rw [i32_le, s2]
      omega
    · rw [i32_le, s2]
      omega
  simp only [M_Ro_takeAll, ok_B, ok_C, ok_R, ok_L, ok_K, ok_GI, ok_GL, ok_PI, ok_PL, ok_AI, ok_AL, ok_SI, ok_SL, ok_CI, cmp_lt, cmp_le, cmp_gt, cmp_ge, cmp_eq, nar0, nar1, Sum.elim_inl, Sum.elim_inr, ok_PzT, ok_PzC, ok_PzP, ok_PrC, ok_PrP, ok_PrF, ok_PrN, ok_Ln, ok_CL, ok_Nw, ok_S, ok_Ks, ok_Nz]
  have key : ∀ T : S1, (∀ f j, gI T f j = if f = 128 * q + 2 ∧ j = 0 then 0 else if f = 128 * r + 2 ∧ j = 0 then rwS s q else gI s f j) → (∀ f j, gL T f j = gL s f j) → (∀ a j i, a ≠ r + 1 → gA T a j i = gA s a j i) → (∀ a j i, a ≠ r + 2 → gB T a j i = gB s a j i) → (∀ i, rwK T r i = if 0 ≤ i ∧ i < 0 + rwS s q then rwK s q (0 + (i - 0)) else rwK s r i) → (∀ i, rwV T r i = if 0 ≤ i ∧ i < 0 + rwS s q then rwV s q (0 + (i - 0)) else rwV s r i) → rtQ L r q s T := fun T TI TL TA TB TK TV => by
    have tS : rwS T r = rwS s q := by
      show gI T (128 * r + 2) 0 = _
      rw [TI, if_neg (fun z => ne2 z.1), if_pos ⟨rfl, rfl⟩]
    refine ⟨⟨fun f j z => ?_, TL, TA, TB⟩, ⟨?_, fun i i0 i1 => ?_⟩, tS, (TI _ _).trans (if_pos ⟨rfl, rfl⟩)⟩
    · rw [TI, if_neg (fun w => z.2 w.1), if_neg (fun w => z.1 w.1)]
    · show 0 ≤ rwS T r ∧ rwS T r ≤ 512
      rw [tS, i32_le, i32_le]
      omega
    · change i < rwS T r at i1
      rw [tS] at i1
      have z : (0 : Int32) + rwS s q = rwS s q := Int32.zero_add _
      have z2 : i - 0 = i := Int32.sub_zero i
      have z3 : (0 : Int32) + i = i := Int32.zero_add i
      show cV L (rwK T r i) (rwV T r i)
      rw [TK, TV, z, z2, z3, if_pos ⟨i0, i1⟩, if_pos ⟨i0, i1⟩]
      exact h.2 i i0 i1
  refine ⟨cc, cc, key _ (fun f j => ?_) (fun _ _ => rfl) (fun a j i z => ?_) (fun a j i z => ?_) (fun i => ?_) (fun i => ?_)⟩
  · simp only [gI_sI, gI_sBf, gI_sAf]
  · simp only [gA_sI, gA_sBf, gA_sAf, z, false_and, if_false]
  · simp only [gB_sI, gB_sBf, gB_sAf, z, false_and, if_false]
  · simp only [rwK, gA_sI, gA_sBf, gA_sAf, cpI, true_and, and_self, if_true]
  · simp only [rwV, gB_sI, gB_sBf, gB_sAf, gI_sAf, cpL, true_and, and_self, if_true]
def rk (s : S1) (r : Nat) (i : Int32) : Int32 := if rwS s r ≤ i then 0 else rwK s r i
def rv (s : S1) (r : Nat) (i : Int32) : Int64 := if rwS s r ≤ i then 0 else rwV s r i
theorem ok_kA {s : S1} {r : Nat} {i : Int32} (h : (rwS s r).toInt ≤ 512) (i0 : 0 ≤ i) (Q : Int32 → S1 → Prop) : ok (M_Ro_kindAt r 0 i) s Q ↔ Q (rk s r i) s := by
  simp only [M_Ro_kindAt, ok_B, ok_C, ok_R, ok_L, ok_K, ok_GI, ok_GL, ok_PI, ok_PL, ok_AI, ok_AL, ok_SI, ok_SL, ok_CI, cmp_lt, cmp_le, cmp_gt, cmp_ge, cmp_eq, nar0, nar1, Sum.elim_inl, Sum.elim_inr, ok_PzT, ok_PzC, ok_PzP, ok_PrC, ok_PrP, ok_PrF, ok_PrN, ok_Ln, ok_CL, ok_Nw, ok_S, ok_Ks, ok_Nz]
  unfold rk
  by_cases c : rwS s r ≤ i
  · rw [if_pos c]
    exact ⟨fun w => w.1 c, fun w => ⟨fun _ => w, fun z => absurd c z⟩⟩
  · rw [if_neg c]
    refine ⟨fun w => (w.2 c).2, fun w => ⟨fun z => absurd z c, fun _ => ⟨⟨i0, ?_⟩, w⟩⟩⟩
    rw [i32_le] at c
    rw [i32_lt]
    have e5 : (512 : Int32).toInt = 512 := rfl
    omega
theorem ok_vA {s : S1} {r : Nat} {i : Int32} (h : (rwS s r).toInt ≤ 512) (i0 : 0 ≤ i) (Q : Int64 → S1 → Prop) : ok (M_Ro_valueAt r 0 i) s Q ↔ Q (rv s r i) s := by
  simp only [M_Ro_valueAt, ok_B, ok_C, ok_R, ok_L, ok_K, ok_GI, ok_GL, ok_PI, ok_PL, ok_AI, ok_AL, ok_SI, ok_SL, ok_CI, cmp_lt, cmp_le, cmp_gt, cmp_ge, cmp_eq, nar0, nar1, Sum.elim_inl, Sum.elim_inr, ok_PzT, ok_PzC, ok_PzP, ok_PrC, ok_PrP, ok_PrF, ok_PrN, ok_Ln, ok_CL, ok_Nw, ok_S, ok_Ks, ok_Nz]
  unfold rv
  by_cases c : rwS s r ≤ i
  · rw [if_pos c]
    exact ⟨fun w => w.1 c, fun w => ⟨fun _ => w, fun z => absurd c z⟩⟩
  · rw [if_neg c]
    refine ⟨fun w => (w.2 c).2, fun w => ⟨fun z => absurd z c, fun _ => ⟨⟨i0, ?_⟩, w⟩⟩⟩
    rw [i32_le] at c
    rw [i32_lt]
    have e5 : (512 : Int32).toInt = 512 := rfl
    omega
theorem cRow.kv {L : Int32 → Int32 → Prop} {s : S1} {r : Nat} (h : cRow L s r) {i : Int32} (i0 : 0 ≤ i) : cV L (rk s r i) (rv s r i) := by
  unfold rk rv
  by_cases c : rwS s r ≤ i
  · rw [if_pos c, if_pos c]
    exact .inl (by decide)
  · rw [if_neg c, if_neg c]
    refine h.2 i i0 ?_
    show i < rwS s r
    rw [i32_le] at c
    rw [i32_lt]
    omega
