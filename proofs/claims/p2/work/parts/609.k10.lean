/-! The class: the whole collection. -/
/-- a new row of bytes is there -/
def pN (s : S1) : Prop := gI s 19839 0 = 1
theorem ok_PrN (s : S1) (Q : Unit → S1 → Prop) : ok (oPr 154 0) s Q ↔ pN s ∧ Q () s := by
  rw [ok_Pr]
  exact ⟨fun ⟨⟨a, b, c⟩, q⟩ => ⟨a rfl, q⟩, fun ⟨a, q⟩ => ⟨⟨fun _ => a, by decide, by decide⟩, q⟩⟩
def cRw (L : Int32 → Int32 → Prop) (s : S1) (ka kv f : Nat) : Prop := (0 ≤ gI s f 0 ∧ gI s f 0 ≤ 512) ∧ ∀ i, 0 ≤ i → i < gI s f 0 → cV L (gA s ka 0 i) (gB s kv 0 i)
/-- a coroutine that runs or waits for one that it has resumed -/
def cMb (s : S1) (c : Int32) : Prop := pC s c ∧ 0 ≤ oSl s c ∧ (gI s 18951 c = 1 ∨ gI s 18951 c = 2 ∨ c = mCur s)
def cRn (s : S1) : Prop := 0 ≤ mCur s ∧ ∃ ρ : Int32 → Int, Ls (cMb s) ρ (oRs s) (mCur s)
/-- strings that stay -/
def cNm (s : S1) : Prop := (∀ i, 0 ≤ i → i < 57 → cLv false s (gA s 115 0 i) 4 ∧ cSy s (gA s 115 0 i) ≠ 0) ∧ ∀ i, 0 ≤ i → i < gI s 12938 0 → (0 ≤ gA s 105 0 i ∧ gA s 105 0 i ≤ 4) ∧ (gA s 105 0 i = 4 → (0 ≤ gB s 106 0 i ∧ (gB s 106 0 i).toInt32.toInt64 = gB s 106 0 i) ∧ cLv false s (gB s 106 0 i).toInt32 4 ∧ cSy s (gB s 106 0 i).toInt32 ≠ 0)
def cRt (s : S1) : Prop := cLv false s (gI s 16394 0) 5 ∧ cRn s ∧ cRw (cLv false s) s 142 143 18050 ∧ cRw (cLv false s) s 139 140 17666 ∧ cRw (cLv false s) s 133 134 16898 ∧ cNm s
theorem ofNat512 : Int32.ofNat 512 = 512 := rfl
theorem reachRow_ok {E : Int32 → Prop} {s0 s : S1} (h : MI E s0 s) (ra rv : Nat) (n : Int32) (ea : lnF ra = 512) (ev : lnF rv = 512) (ha : ra ≠ 119) (hn : 0 ≤ n ∧ n ≤ 512) (hv : ∀ i, 0 ≤ i → i < n → cV (cLv false s0) (gA s0 ra 0 i) (gB s0 rv 0 i)) :
    ok (M_He_reachRow ra 0 rv 0 0 n) s (fun _ s' => MI E s0 s' ∧ cMk s s' ∧ ∀ i, 0 ≤ i → i < n → cV (cLv true s') (gA s0 ra 0 i) (gB s0 rv 0 i)) := by
  simp only [M_He_reachRow, ok_B, ok_C, ok_R, ok_L, ok_K, ok_GI, ok_GL, ok_PI, ok_PL, ok_AI, ok_AL, ok_SI, ok_SL, ok_Pr, ok_CI, cmp_lt, cmp_le, cmp_gt, cmp_ge, cmp_eq, nar0, nar1, Sum.elim_inl, Sum.elim_inr]
  refine ok_W (fun y s1 => (y.1 = ra ∧ y.2.1 = 0 ∧ y.2.2.1 = rv ∧ y.2.2.2.1 = 0 ∧ y.2.2.2.2.1 = n) ∧ (0 ≤ y.2.2.2.2.2 ∧ y.2.2.2.2.2 ≤ n) ∧ MI E s0 s1 ∧ cMk s s1 ∧ ∀ i, 0 ≤ i → i < y.2.2.2.2.2 → cV (cLv true s1) (gA s0 ra 0 i) (gB s0 rv 0 i)) (fun y _ => (n - y.2.2.2.2.2).toNatClampNeg) ?_ _ _ ⟨⟨rfl, rfl, rfl, rfl, rfl⟩, ⟨by show (0 : Int32) ≤ 0; decide, hn.1⟩, h, .refl s, fun i b c => absurd c (by dsimp only; clear h hv; grind)⟩
  rintro ⟨r1, z1, r2, z2, n', i⟩ s1 ⟨⟨rfl, rfl, rfl, rfl, rfl⟩, hi, hm, hs, hw⟩
  dsimp only at hi hw hn hv ea ev ha
  have hk := hm.1
  simp only [M_He_reachRow_L3, ok_B, ok_C, ok_R, ok_L, ok_K, ok_GI, ok_GL, ok_PI, ok_PL, ok_AI, ok_AL, ok_SI, ok_SL, ok_Pr, ok_CI, cmp_lt, cmp_le, cmp_gt, cmp_ge, cmp_eq, nar0, nar1, Sum.elim_inl, Sum.elim_inr, ok_Ln]
  have l1 : lnS s1 r1 0 = 512 := by
    unfold lnS
    rw [if_neg (by rw [ea]; decide), ea]
  have l2 : lnS s1 r2 0 = 512 := by
    unfold lnS
    rw [if_neg (by rw [ev]; decide), ev]
  simp only [l1, l2, ofNat512, hk.A r1 ha, hk.B]
  refine ⟨fun c => ⟨hm, hs, fun j b d => hw j b ?_⟩, fun c => ⟨?_, ?_, ?_⟩⟩
  · clear h hv hw hm hs hk
    grind
  · clear h hv hw hm hs hk
    grind
  · clear h hv hw hm hs hk
    grind
  · refine ok_mono (reachV_ok hm _ _ (hv i hi.1 (by clear h hv hw hm hs hk; grind))) ?_
    rintro - s2 ⟨m2, k2, v2⟩
    refine ⟨⟨⟨by trivial, by trivial, by trivial, by trivial, by trivial⟩, ?_, m2, hs.trans k2, fun j b d => ?_⟩, ?_⟩
    · clear h hv hw hm hs hk v2 m2 k2
      grind
    · by_cases q : j < i
      · exact (hw j b q).mk k2
      · have : j = i := by
          clear h hv hw hm hs hk v2 m2 k2
          grind
        rw [this]
        exact v2
    · clear h hv hw hm hs hk v2 m2 k2
      exact clamp_lt (by grind) (by grind)
theorem init_ok {s : S1} (hn : cNr s) (hs : ∀ x, 0 ≤ x → x < cN s → cSy s x = 0 ∨ cSy s x = 1) : ok (oW M_He_clean_L12 0) s (fun _ s' => (∀ f i, f ≠ 18562 → gI s' f i = gI s f i) ∧ s'.2 = s.2 ∧ ∀ x, 0 ≤ x → x < cN s → cRe s' x = cSy s x) := by
  refine ok_W (fun i s1 => (0 ≤ i ∧ i ≤ cN s) ∧ (∀ f i, f ≠ 18562 → gI s1 f i = gI s f i) ∧ s1.2 = s.2 ∧ ∀ x, 0 ≤ x → x < i → cRe s1 x = cSy s x) (fun i _ => (cN s - i).toNatClampNeg) ?_ _ _ ⟨⟨by decide, hn.1.1⟩, fun _ _ _ => rfl, rfl, fun x a b => absurd b (by clear hn hs; grind)⟩
  rintro i s1 ⟨hi, i1, e1, hm⟩
  simp only [M_He_clean_L12, ok_B, ok_C, ok_R, ok_L, ok_K, ok_GI, ok_GL, ok_PI, ok_PL, ok_AI, ok_AL, ok_SI, ok_SL, ok_Pr, ok_CI, cmp_lt, cmp_le, cmp_gt, cmp_ge, cmp_eq, nar0, nar1, Sum.elim_inl, Sum.elim_inr, ok_PzT]
  have en : gI s1 14209 0 = cN s := i1 _ _ (by decide)
  rw [en]
  have n4 := hn.1.2
  refine ⟨fun d => ⟨i1, e1, fun x a b => hm x a (by clear hn hs i1 hm; grind)⟩, fun d => ?_⟩
  have li : i < cN s := by clear hn hs i1 hm; grind
  have pi : pT s1 i := by
    have := hn.2 i hi.1 li
    unfold pT at this ⊢
    rw [i1 _ _ (by decide)]
    exact this
  have es : gI s1 18563 i = cSy s i := i1 _ _ (by decide)
  rw [es]
  refine ⟨pi, pi, hs i hi.1 li, ⟨⟨by clear hn hs i1 hm; grind, by clear hn hs i1 hm; grind⟩, fun f j q => ?_, e1, fun x a b => ?_⟩, ?_⟩
  · rw [gI_sI, if_neg (fun w => q w.1)]
    exact i1 f j q
  · unfold cRe
    rw [gI_sI]
    by_cases q : x = i
    · rw [if_pos ⟨rfl, q⟩, q]
    · rw [if_neg (fun w => q w.2)]
      exact hm x a (by clear hn hs i1 hm; grind)
  · clear hn hs i1 hm
    exact clamp_lt (by grind) (by grind)
/-- the coroutines that are under way are reached -/
theorem reachRs_ok {E : Int32 → Prop} {b s : S1} (h : MI E b s) (H : cHI b) (R : cRn b) (ρ : Int32 → Int) (hl : Ls (cMb b) ρ (oRs b) (mCur b)) :
    ok (oW M_He_clean_L72 (mCur b, 0)) s (fun e s' => MI E b s' ∧ cMk s s' ∧ cMb b e ∧ ∀ c, cMb b c → c ≠ e → cRe s' (oSl b c) ≠ 0) := by
  have e0 : (0 : Int32).toInt = 0 := rfl
  have e1 : (1 : Int32).toInt = 1 := rfl
  have e32 : (32 : Int32).toInt = 32 := rfl
  have l7 : ∀ c, cMb b c → cLv false b (oSl b c) 7 := fun c m => (H.2.2.2.2.1.1 c m.1 m.2.1).1
  refine ok_W (fun y s1 => cMb b y.1 ∧ (0 ≤ y.2.toInt ∧ y.2.toInt ≤ 32) ∧ y.2.toInt.toNat ≤ lsC 32 (cMb b) ρ (ρ y.1) ∧ MI E b s1 ∧ cMk s s1 ∧ ∀ c, cMb b c → ρ y.1 < ρ c → cRe s1 (oSl b c) ≠ 0) (fun y _ => (32 - y.2.toInt).toNat) ?_ _ _ ⟨hl.1 R.1, ⟨by dsimp only; omega, by dsimp only; omega⟩, by dsimp only; omega, h, .refl s, fun c m l => ?_⟩
  · rintro ⟨c, n⟩ s1 ⟨mc, hn, hc, hm, hs, hw⟩
    dsimp only at mc hn hc hw
    have hk := hm.1
    have cl : c.toNatClampNeg < 32 := clamp_ltN (n := 32) mc.1.1.2 (by decide)
    have c2 := lsC_le (K := ρ) (B := 32) mc mc.1.1.1 cl (Int.le_refl _)
    have n32 : n.toInt < 32 := by omega
    have en : (n + 1).toInt = n.toInt + 1 := by
      rw [ktI_add] <;> omega
    simp only [M_He_clean_L72, ok_B, ok_C, ok_R, ok_L, ok_K, ok_GI, ok_GL, ok_PI, ok_PL, ok_AI, ok_AL, ok_SI, ok_SL, ok_Pr, ok_CI, cmp_lt, cmp_le, cmp_gt, cmp_ge, cmp_eq, nar0, nar1, Sum.elim_inl, Sum.elim_inr, ok_PzC]
    simp only [hk.I 18955 (by decide), hk.I 18950 (by decide)]
    refine ⟨fun d => ?_, fun d => ⟨fun e => ⟨hm, hs, mc, fun c' m' ne => ?_⟩, fun e => ?_⟩⟩
    · rw [i32_le] at d
      omega
    · refine hw c' m' ?_
      have w : ρ c' ≠ ρ c := fun z => ne (hl.2.2.2.2 c' c m' mc z)
      have v : ¬ ρ c' < ρ c := fun z => by
        have := (hl.2.2.2.1 c' c m' mc z).1
        change oRs b c < 0 at e
        rw [i32_lt] at e
        rw [i32_le] at this
        omega
      omega
    · refine ok_mono (reachL_ok hm 7 _ (by decide) (.inr ((l7 c mc).r59 (by decide) (by decide)))) ?_
      rintro - s2 ⟨m2, k2, v2⟩
      rw [m2.1.I 18955 (by decide)]
      have r0 : 0 ≤ oRs b c := by
        change ¬ oRs b c < 0 at e
        rw [i32_lt] at e
        rw [i32_le]
        omega
      have nxt := hl.2.2.1 c mc r0
      have c3 := lsC_lt (B := 32) (K := ρ) mc mc.1.1.1 cl nxt.2
      refine ⟨?_, ⟨nxt.1, by rw [en]; omega, ?_, m2, hs.trans k2, fun c' m' l => ?_⟩, by rw [en]; omega⟩
      · have := nxt.1.1
        unfold pC at this ⊢
        rw [m2.1.I 19071 (by decide)]
        exact this
      · show (n + 1).toInt.toNat ≤ lsC 32 (cMb b) ρ (ρ (oRs b c))
        rw [en]
        omega
      · change ρ (oRs b c) < ρ c' at l
        by_cases q : c' = c
        · rw [q]
          exact v2 (l7 c mc).1.1
        · by_cases z : ρ c < ρ c'
          · exact k2.2.2.2.2 _ (hw c' m' z)
          · have ne : ρ c' ≠ ρ c := fun w => q (hl.2.2.2.2 c' c m' mc w)
            have := (hl.2.2.2.1 c' c m' mc (by omega)).2
            omega
  · have := (hl.2.1 c m).2
    dsimp only at l
    omega
