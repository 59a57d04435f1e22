/-! The class: an instruction at work: reading and setting. -/
theorem kushr (w : Int32) (k : Nat) (hk : 0 < k ∧ k < 32) : 0 ≤ iushr w (Int32.ofNat k) ∧ (iushr w (Int32.ofNat k)).toInt < 2 ^ (32 - k) := by
  have h0 : (0 : Int32).toInt = 0 := rfl
  have e1 : ((Int32.ofNat k).toUInt32 &&& Int32.toUInt32 31).toNat = k := by
    show (BitVec.ofNat 32 k &&& 31#32).toNat = k
    rw [BitVec.toNat_and, BitVec.toNat_ofNat, Nat.mod_eq_of_lt (by omega)]
    show k &&& 31 = k
    exact Nat.and_two_pow_sub_one_of_lt_two_pow (n := 5) (by omega)
  have e2 : (w.toUInt32 >>> ((Int32.ofNat k).toUInt32 &&& Int32.toUInt32 31)).toNat = w.toUInt32.toNat >>> k := by
    rw [UInt32.toNat_shiftRight, e1, Nat.mod_eq_of_lt (by omega)]
  have e3 : w.toUInt32.toNat < 2 ^ 32 := w.toUInt32.toNat_lt
  have e4 : w.toUInt32.toNat >>> k < 2 ^ (32 - k) := by
    rw [Nat.shiftRight_eq_div_pow]
    apply Nat.div_lt_of_lt_mul
    rw [← Nat.pow_add]
    have : k + (32 - k) = 32 := by omega
    rw [this]
    exact e3
  have e5 : 2 ^ (32 - k) ≤ 2 ^ 31 := Nat.pow_le_pow_right (by decide) (by omega)
  have e6 : (iushr w (Int32.ofNat k)).toInt = (w.toUInt32.toNat >>> k : Nat) := by
    unfold iushr
    show (w.toUInt32 >>> ((Int32.ofNat k).toUInt32 &&& Int32.toUInt32 31)).toBitVec.toInt = _
    rw [BitVec.toInt_eq_toNat_of_lt]
    · exact congrArg _ e2
    · have : (w.toUInt32 >>> ((Int32.ofNat k).toUInt32 &&& Int32.toUInt32 31)).toBitVec.toNat = w.toUInt32.toNat >>> k := e2
      rw [this]
      omega
  rw [i32_le, h0, e6]
  refine ⟨Int.natCast_nonneg _, ?_⟩
  exact_mod_cast e4
theorem kandI (x : Int32) (n : Nat) (hn : n < 2147483648) : 0 ≤ (x &&& Int32.ofNat n).toInt ∧ (x &&& Int32.ofNat n).toInt ≤ n := by
  have w := kand_le x n hn
  rw [i32_le, i32_le] at w
  have e1 : (Int32.ofNat n).toInt = n := Int32.toInt_ofNat_of_lt (by omega)
  have h0 : (0 : Int32).toInt = 0 := rfl
  omega
theorem dO_in (w : Int32) : 0 ≤ (dO w).toInt ∧ (dO w).toInt ≤ 63 := kandI w 63 (by decide)
theorem dA_in (w : Int32) : 0 ≤ (dA w).toInt ∧ (dA w).toInt ≤ 255 := kandI _ 255 (by decide)
theorem dC_in (w : Int32) : 0 ≤ (dC w).toInt ∧ (dC w).toInt ≤ 511 := kandI _ 511 (by decide)
theorem dB_in (w : Int32) : 0 ≤ (dB w).toInt ∧ (dB w).toInt ≤ 511 := by
  have h := kushr w 23 (by decide)
  rw [i32_le] at h
  have h0 : (0 : Int32).toInt = 0 := rfl
  have : (2 : Int) ^ (32 - 23) = 512 := by decide
  exact ⟨by have := h.1; rw [h0] at this; exact this, by have := h.2; show (iushr w (Int32.ofNat 23)).toInt ≤ 511; omega⟩
theorem dX_in (w : Int32) : 0 ≤ (dX w).toInt ∧ (dX w).toInt ≤ 262143 := by
  have h := kushr w 14 (by decide)
  rw [i32_le] at h
  have h0 : (0 : Int32).toInt = 0 := rfl
  have : (2 : Int) ^ (32 - 14) = 262144 := by decide
  exact ⟨by have := h.1; rw [h0] at this; exact this, by have := h.2; show (iushr w (Int32.ofNat 14)).toInt ≤ 262143; omega⟩
/-- an instruction is at work -/
def Ix (s : S1) (n : Nat × Nat) (i w : Int32) : Prop :=
  cW s n ∧ qFr false s ∧ gI s 18951 (mCur s) = 1 ∧ 1 ≤ (oD s (mCur s)).toInt ∧ fWh s (tF s) = 0 ∧
  (gI s 16516 0 = mCur s ∧ gI s 16517 0 = tF s ∧ gI s 16518 0 = fPr s (tF s) ∧ gI s 16519 0 = gI s 19459 (tF s)) ∧
  (gI s 16520 0 = dO w ∧ gI s 16521 0 = dA w ∧ gI s 16522 0 = dB w ∧ gI s 16523 0 = dC w ∧ gI s 16524 0 = dX w) ∧
  (0 ≤ i.toInt ∧ i.toInt < pNi s (fPr s (tF s))) ∧ dW s (fPr s (tF s)) i = w
theorem Ix.w {s : S1} {n : Nat × Nat} {i w : Int32} (h : Ix s n i w) : cW s n := h.1
theorem Ix.fr {s : S1} {n : Nat × Nat} {i w : Int32} (h : Ix s n i w) : qFr false s := h.2.1
theorem tF_of {s : S1} {n : Nat × Nat} (W : cW s n) (h : 1 ≤ (oD s (mCur s)).toInt) : ∃ j, 0 ≤ j ∧ j < oD s (mCur s) ∧ j < 200 ∧ j.toInt + 1 = (oD s (mCur s)).toInt ∧ tF s = mCur s * 200 + j := by
  have d := W.dd _ W.cur
  have e0 : (0 : Int32).toInt = 0 := rfl
  have e1 : (1 : Int32).toInt = 1 := rfl
  have e200 : (200 : Int32).toInt = 200 := rfl
  have e : (oD s (mCur s) - 1).toInt = (oD s (mCur s)).toInt - 1 := by rw [ktI_sub] <;> omega
  exact ⟨oD s (mCur s) - 1, by rw [i32_le]; omega, by rw [i32_lt]; omega, by rw [i32_lt]; omega, by omega, rfl⟩
/-- what is known of the newest frame, a Lua frame -/
def Tp (s : S1) : Prop := (0 ≤ fBs s (tF s) ∧ 0 ≤ fEx s (tF s) ∧ fEx s (tF s) ≤ 512 ∧ fBs s (tF s) + pNr s (fPr s (tF s)) + fEx s (tF s) = (oU s (mCur s)).toInt ∧ (oU s (mCur s)).toInt ≤ 4000) ∧ (0 ≤ (fPr s (tF s)).toInt ∧ (fPr s (tF s)).toInt < nPr s) ∧ dPp s (fPr s (tF s)) ∧ pP s (fPr s (tF s)) ∧ pF s (tF s) ∧ cLv false s (mFn s (tF s)) 6 ∧ cLk s (mFn s (tF s)) = fPr s (tF s)
theorem cW.tp {s : S1} {n : Nat × Nat} {τ : Bool} (W : cW s n) (F : qFr τ s) (h : 1 ≤ (oD s (mCur s)).toInt) (l : fWh s (tF s) = 0) : Tp s := by
  obtain ⟨j, j0, j1, j2, j3, e⟩ := tF_of W h
  have ac := W.cur
  obtain ⟨q1, q2, q3, q4⟩ := (F _ ac).2 j j0 j1
  rw [← e] at q1 q2 q3 q4
  obtain ⟨⟨a1, a2⟩, a3, a4, -⟩ := q4 l
  have en : fEnd s (mCur s) j = (oU s (mCur s)).toInt := by
    unfold fEnd
    rw [if_neg (by omega)]
  rw [en] at a4
  have kl := W.kl _ a1
  rw [a2] at kl
  have pg := W.pg.2.2.1 _ kl.1 kl.2
  have pg2 := W.pg.1.2
  refine ⟨⟨q2.1, a3.1, a3.2, a4, (W.hi.dep ac).2.2.2⟩, kl, pg, ⟨⟨by rw [i32_le]; exact kl.1, by rw [i32_lt]; show _ < (250 : Int); omega⟩, pg.1⟩, ?_, a1, a2⟩
  rw [e]
  have f := fm_int ac.1.1 ⟨j0, j2⟩
  refine ⟨⟨by rw [i32_le]; show (0 : Int) ≤ _; omega, by rw [i32_lt]; show _ < (6400 : Int); omega⟩, ((W.sf.1 _ ac.1.1.1 ac.1.1.2).1 ac.1.2).2.2.2.2 j j0 j2⟩
theorem Ix.tp {s : S1} {n : Nat × Nat} {i w : Int32} (h : Ix s n i w) : Tp s := h.1.tp h.2.1 h.2.2.2.1 h.2.2.2.2.1
theorem Ix.wf {s : S1} {n : Nat × Nat} {i w : Int32} (h : Ix s n i w) : dWf s (fPr s (tF s)) i := h.tp.2.2.1.2.2.2.2.2.2.2.2.1 i h.2.2.2.2.2.2.2.1.1 h.2.2.2.2.2.2.2.1.2
theorem Ix.mk {s t : S1} {n m : Nat × Nat} {i w : Int32} (h : Ix s n i w) (k : mkW s false m t) : Ix t m i w := by
  obtain ⟨W, F, h1, h2, h3, h4, h5, h6, h7⟩ := h
  obtain ⟨Wt, Ft, km⟩ := k
  have ec := km.cur
  have eD : oD t (mCur s) = oD s (mCur s) := km.1 _ _ (.inr (.inr (.inl ⟨by decide, by decide, rfl⟩)))
  have et : tF t = tF s := by
    unfold tF
    rw [ec, eD]
  obtain ⟨j, j0, j1, j2, j3, e⟩ := tF_of W h2
  have ofc : ofC s (tF s) := ⟨j, j0, j2, e⟩
  have g : ∀ f, f / 128 = 152 → gI t f (tF s) = gI s f (tF s) := fun f q => km.1 _ _ (.inr (.inl ⟨q, ofc⟩))
  have g9 : ∀ f j, 128 ≤ f / 128 ∧ f / 128 ≤ 144 → gI t f j = gI s f j := fun f j q => km.1 _ _ (.inl q)
  have ew : ∀ p i, dW t p i = dW s p i := fun p i => by
    unfold dW
    rw [g9 18440 p (by decide), km.2.2.1 104 _ _ (.inr (.inl rfl))]
  unfold Ix
  rw [et, ec, show fPr t (tF s) = fPr s (tF s) from g _ (by decide), ew, show fWh t (tF s) = fWh s (tF s) from g _ (by decide), eD]
  unfold pNi
  rw [g9 16516 0 (by decide), g9 16517 0 (by decide), g9 16518 0 (by decide), g9 16519 0 (by decide), g9 16520 0 (by decide), g9 16521 0 (by decide), g9 16522 0 (by decide), g9 16523 0 (by decide), g9 16524 0 (by decide), g 19459 (by decide), g9 18439 _ (by decide), km.1 18951 _ (.inr (.inr (.inl ⟨by decide, by decide, rfl⟩)))]
  exact ⟨Wt, Ft, h1, h2, h3, h4, h5, h6, h7⟩
theorem Ix.lw {b : Bool} {s t : S1} {n : Nat × Nat} {i w : Int32} (h : Ix s n i w) (k : lw b s t) (rg : rgV t) (ra : cRow (cLv false s) t 132) (ro : cRow (cLv false s) t 138) (rl : cRow (cLv false s) t 141) : Ix t n i w := by
  obtain ⟨W, F, h1, h2, h3, h4, h5, h6, h7⟩ := h
  have Wt := k.w W F rg ra ro rl
  have Ft := k.fr W F (fun z => absurd z (by decide))
  have g : ∀ f j, ¬ lwX f → gI t f j = gI s f j := k.1
  unfold Ix
  rw [k.etF, k.cur, show fPr t (tF s) = fPr s (tF s) from g _ _ (by unfold lwX; decide), k.pk.w, show fWh t (tF s) = fWh s (tF s) from g _ _ (by unfold lwX; decide), k.dep]
  unfold pNi
  rw [g 16516 0 (by unfold lwX; decide), g 16517 0 (by unfold lwX; decide), g 16518 0 (by unfold lwX; decide), g 16519 0 (by unfold lwX; decide), g 16520 0 (by unfold lwX; decide), g 16521 0 (by unfold lwX; decide), g 16522 0 (by unfold lwX; decide), g 16523 0 (by unfold lwX; decide), g 16524 0 (by unfold lwX; decide), g 19459 _ (by unfold lwX; decide), g 18439 _ (by unfold lwX; decide), g 18951 _ (by unfold lwX; decide)]
  exact ⟨Wt, Ft, h1, h2, h3, h4, h5, h6, h7⟩
def kO (s : S1) (x : Int32) : Int32 := if 256 ≤ x then gA s 105 0 (gI s 18438 (gI s 16518 0) + x - 256) else gA s 149 (gI s 16516 0) (gI s 16519 0 + x)
def vO (s : S1) (x : Int32) : Int64 := if 256 ≤ x then gB s 106 0 (gI s 18438 (gI s 16518 0) + x - 256) else gB s 150 (gI s 16516 0) (gI s 16519 0 + x)
/-- a register or constant that is there -/
def xOk (s : S1) (x : Int32) : Prop := 0 ≤ x.toInt ∧ dQ s (fPr s (tF s)) x
theorem Ix.place {s : S1} {n : Nat × Nat} {i w x : Int32} (h : Ix s n i w) (hx : xOk s x) : (256 ≤ x → pP s (gI s 16518 0) ∧ (0 ≤ gI s 18438 (gI s 16518 0) + x - 256 ∧ gI s 18438 (gI s 16518 0) + x - 256 < 20000) ∧ gI s 18438 (gI s 16518 0) + x - 256 < gI s 12938 0) ∧ (¬ 256 ≤ x → pC s (gI s 16516 0) ∧ (0 ≤ gI s 16519 0 + x ∧ gI s 16519 0 + x < 4000) ∧ gI s 16519 0 + x < oU s (mCur s)) := by
  obtain ⟨t1, t2, t3, t4, t5, t6, t7⟩ := h.tp
  obtain ⟨a1, a2, a3, a4⟩ := h.2.2.2.2.2.1
  obtain ⟨x0, x1, x2⟩ := hx
  have e256 : (256 : Int32).toInt = 256 := rfl
  have e0 : (0 : Int32).toInt = 0 := rfl
  have e2 : (20000 : Int32).toInt = 20000 := rfl
  have e4 : (4000 : Int32).toInt = 4000 := rfl
  have pp := t3.2.2.2.2.2.1
  have pc := h.w.pg.2.1
  refine ⟨fun c => ?_, fun c => ?_⟩
  · rw [i32_le, e256] at c
    have y := x2 c
    have xb := Int32.toInt_lt x
    have nc : pNc s (fPr s (tF s)) ≤ 20000 := by omega
    have s1 : (gI s 18438 (fPr s (tF s)) + x).toInt = pCs s (fPr s (tF s)) + x.toInt := ktI_add (by show -2147483648 ≤ pCs s (fPr s (tF s)) + x.toInt ∧ pCs s (fPr s (tF s)) + x.toInt < 2147483648; omega)
    have s2 : (gI s 18438 (fPr s (tF s)) + x - 256).toInt = pCs s (fPr s (tF s)) + x.toInt - 256 := by rw [ktI_sub, s1] <;> omega
    rw [a3]
    refine ⟨t4, ⟨by rw [i32_le]; omega, by rw [i32_lt]; omega⟩, ?_⟩
    rw [i32_lt, s2]
    show _ < nCo s
    omega
  · rw [i32_le, e256] at c
    have y := x1 (by omega)
    have s1 : (gI s 19459 (tF s) + x).toInt = fBs s (tF s) + x.toInt := ktI_add (by show -2147483648 ≤ fBs s (tF s) + x.toInt ∧ fBs s (tF s) + x.toInt < 2147483648; omega)
    rw [a1, a4]
    refine ⟨h.w.cur.1, ⟨by rw [i32_le]; omega, by rw [i32_lt]; omega⟩, ?_⟩
    rw [i32_lt, s1]
    omega
theorem ok_kO {s : S1} {n : Nat × Nat} {i w x : Int32} (h : Ix s n i w) (hx : xOk s x) (Q : Int32 → S1 → Prop) : ok (M_St_kindOf x) s Q ↔ Q (kO s x) s := by
  obtain ⟨p1, p2⟩ := h.place hx
  simp only [M_St_kindOf, ok_B, ok_C, ok_R, ok_L, ok_K, ok_GI, ok_GL, ok_PI, ok_PL, ok_AI, ok_AL, ok_SI, ok_SL, ok_CI, cmp_lt, cmp_le, cmp_gt, cmp_ge, cmp_eq, nar0, nar1, Sum.elim_inl, Sum.elim_inr, ok_PzT, ok_PzC, ok_PzP, ok_PrC, ok_PrP, ok_PrF, ok_PrN, ok_Ln, ok_CL, ok_Nw, ok_S, ok_Ks, ok_Nz]
  unfold kO
  by_cases c : 256 ≤ x
  · rw [if_pos c]
    exact ⟨fun z => (z.1 c).2.2, fun z => ⟨fun _ => ⟨(p1 c).1, (p1 c).2.1, z⟩, fun d => absurd c d⟩⟩
  · rw [if_neg c]
    exact ⟨fun z => (z.2 c).2.2, fun z => ⟨fun d => absurd d c, fun _ => ⟨(p2 c).1, (p2 c).2.1, z⟩⟩⟩
theorem ok_vO {s : S1} {n : Nat × Nat} {i w x : Int32} (h : Ix s n i w) (hx : xOk s x) (Q : Int64 → S1 → Prop) : ok (M_St_valueOf x) s Q ↔ Q (vO s x) s := by
  obtain ⟨p1, p2⟩ := h.place hx
  simp only [M_St_valueOf, ok_B, ok_C, ok_R, ok_L, ok_K, ok_GI, ok_GL, ok_PI, ok_PL, ok_AI, ok_AL, ok_SI, ok_SL, ok_CI, cmp_lt, cmp_le, cmp_gt, cmp_ge, cmp_eq, nar0, nar1, Sum.elim_inl, Sum.elim_inr, ok_PzT, ok_PzC, ok_PzP, ok_PrC, ok_PrP, ok_PrF, ok_PrN, ok_Ln, ok_CL, ok_Nw, ok_S, ok_Ks, ok_Nz]
  unfold vO
  by_cases c : 256 ≤ x
  · rw [if_pos c]
    exact ⟨fun z => (z.1 c).2.2, fun z => ⟨fun _ => ⟨(p1 c).1, (p1 c).2.1, z⟩, fun d => absurd c d⟩⟩
  · rw [if_neg c]
    exact ⟨fun z => (z.2 c).2.2, fun z => ⟨fun d => absurd d c, fun _ => ⟨(p2 c).1, (p2 c).2.1, z⟩⟩⟩
theorem cRt.con {s : S1} (R : cRt s) {i : Int32} (i0 : 0 ≤ i) (i1 : i < gI s 12938 0) : cV (cLv false s) (gA s 105 0 i) (gB s 106 0 i) := by
  have w := R.2.2.2.2.2.2 i i0 i1
  by_cases q : gA s 105 0 i = 4
  · have v := w.2 q
    exact .inr (.inl ⟨.inl q, v.1, by rw [q]; exact v.2.1⟩)
  · refine .inl ⟨w.1.1, ?_⟩
    have a := w.1.2
    rw [i32_le] at a ⊢
    have : (gA s 105 0 i).toInt ≠ (4 : Int32).toInt := fun z => q (toInt_inj z)
    have e4 : (4 : Int32).toInt = 4 := rfl
    have e3 : (3 : Int32).toInt = 3 := rfl
    omega
/-- registers and constants are values, also behind a collection -/
theorem Ix.kv {s s0 : S1} {n : Nat × Nat} {i w x : Int32} (h : Ix s n i w) (hx : xOk s x) (H0 : cHI s0) (R0 : cRt s0) (km : cKm s s0) : cV (cLv false s0) (kO s x) (vO s x) := by
  obtain ⟨p1, p2⟩ := h.place hx
  obtain ⟨a1, a2, a3, a4⟩ := h.2.2.2.2.2.1
  unfold kO vO
  by_cases c : 256 ≤ x
  · rw [if_pos c, if_pos c]
    obtain ⟨-, b1, b2⟩ := p1 c
    rw [← km.2.2.1 105 _ _ (.inr (.inr (.inl rfl))), ← km.2.2.2 106 _ _ (.inl rfl)]
    exact R0.con b1.1 (by rw [km.1 12938 0 (.inr (.inr (.inr (.inr rfl))))]; exact b2)
  · rw [if_neg c, if_neg c]
    obtain ⟨-, b1, b2⟩ := p2 c
    have ec := km.cur
    have ac : cAv s0 (mCur s0) := by
      obtain ⟨m0, ρ, hl⟩ := R0.2.1
      exact ⟨(hl.1 m0).1, (hl.1 m0).2.1⟩
    obtain ⟨co, -, -⟩ := H0.dep ac
    rw [ec] at co
    have w := co.2.1.2 (gI s 16519 0 + x) b1.1 (by rw [show oU s0 (mCur s) = oU s (mCur s) from km.1 _ _ (.inr (.inr (.inl ⟨by decide, by decide, rfl⟩)))]; exact b2)
    rw [a1, ← km.2.2.1 149 (mCur s) _ (.inr (.inr (.inr (.inr (.inr (.inr ⟨rfl, rfl⟩)))))), ← km.2.2.2 150 (mCur s) _ (.inr (.inr ⟨rfl, rfl⟩))]
    exact w
theorem Ix.kv0 {s : S1} {n : Nat × Nat} {i w x : Int32} (h : Ix s n i w) (hx : xOk s x) : cV (cLv false s) (kO s x) (vO s x) := h.kv hx h.w.hi h.w.rt (cKm.refl s)
theorem xOk.r {s : S1} {x : Int32} (h0 : 0 ≤ x.toInt) (h1 : x.toInt < pNr s (fPr s (tF s))) (h2 : pNr s (fPr s (tF s)) ≤ 250) : xOk s x := ⟨h0, fun _ => h1, fun z => by omega⟩
def stQ (s : S1) (n : Nat × Nat) (i w r k : Int32) (v : Int64) (t : S1) : Prop := Ix t n i w ∧ (∀ f j, gI t f j = gI s f j) ∧ (∀ f j, gL t f j = gL s f j) ∧ (∀ a j q, a ≠ 149 → gA t a j q = gA s a j q) ∧ (∀ a j q, a ≠ 150 → gB t a j q = gB s a j q) ∧ ∀ x, xOk s x → kO t x = (if x = r then k else kO s x) ∧ vO t x = (if x = r then v else vO s x)
theorem set_ok {s : S1} {n : Nat × Nat} {i w r k : Int32} {v : Int64} (h : Ix s n i w) (r0 : 0 ≤ r.toInt) (r1 : r.toInt < pNr s (fPr s (tF s))) (hv : cV (cLv false s) k v) : ok (M_St_set r k v) s (fun _ t => stQ s n i w r k v t) := by
  obtain ⟨t1, t2, t3, -⟩ := h.tp
  have pr := t3.2.2.1
  have hx := xOk.r r0 r1 pr.2
  have nc : ¬ 256 ≤ r := fun z => by
    rw [i32_le] at z
    have e : (256 : Int32).toInt = 256 := rfl
    omega
  obtain ⟨b0, b1, b2⟩ := (h.place hx).2 nc
  obtain ⟨a1, a2, a3, a4⟩ := h.2.2.2.2.2.1
  simp only [M_St_set, ok_B, ok_C, ok_R, ok_L, ok_K, ok_GI, ok_GL, ok_PI, ok_PL, ok_AI, ok_AL, ok_SI, ok_SL, ok_CI, cmp_lt, cmp_le, cmp_gt, cmp_ge, cmp_eq, nar0, nar1, Sum.elim_inl, Sum.elim_inr, ok_PzT, ok_PzC, ok_PzP, ok_PrC, ok_PrP, ok_PrF, ok_PrN, ok_Ln, ok_CL, ok_Nw, ok_S, ok_Ks, ok_Nz, n8 hv.kr]
  have key : ∀ T : S1, (∀ f j, gI T f j = gI s f j) → (∀ f j, gL T f j = gL s f j) → (∀ a j q, gA T a j q = if a = 149 ∧ j = gI s 16516 0 ∧ q = gI s 16519 0 + r then k else gA s a j q) → (∀ a j q, gB T a j q = if a = 150 ∧ j = gI s 16516 0 ∧ q = gI s 16519 0 + r then v else gB s a j q) → stQ s n i w r k v T := fun T TI TL TA TB => by
    have lwT : lw true s T := by
      refine ⟨fun f j _ => TI f j, fun j _ => ⟨TI _ _, TI _ _⟩, fun j _ => ⟨TI _ _, TL _ _⟩, fun f j _ => TL f j, fun a j q z => ?_, fun j q z => ?_, fun a j q z => ?_, fun j q z => ?_⟩
      · rw [TA, if_neg (fun y => z.2.2.2.2 y.1)]
      · rw [TA, if_neg (fun y => z (y.2.1.trans a1))]
      · rw [TB, if_neg (fun y => z.2.2.2.2 y.1)]
      · rw [TB, if_neg (fun y => z (y.2.1.trans a1))]
    have oA : ∀ a j q, a ≠ 149 → gA T a j q = gA s a j q := fun a j q z => by rw [TA, if_neg (fun y => z y.1)]
    have oB' : ∀ a j q, a ≠ 150 → gB T a j q = gB s a j q := fun a j q z => by rw [TB, if_neg (fun y => z y.1)]
    have W := h.w
    have co := (W.hi.dep W.cur).1
    have row : ∀ r, r = 132 ∨ r = 138 ∨ r = 141 → cRow (cLv false s) s r → cRow (cLv false s) T r := fun r hr z => z.up (fun _ _ q => q) (TI _ _) (fun j => oA _ _ _ (by omega)) (fun j => oB' _ _ _ (by omega))
    refine ⟨h.lw lwT ⟨fun j j0 j1 => ?_, fun o => ?_⟩ (row _ (by decide) W.args) (row _ (by decide) W.opn) (row _ (by decide) W.last), TI, TL, oA, oB', fun x hx' => ?_⟩
    · rw [lwT.cur, lwT.usd] at j1
      rw [lwT.cur, lwT.lv', show oRk T (mCur s) j = _ from TA _ _ _, show oRv T (mCur s) j = _ from TB _ _ _, a1]
      by_cases q : j = gI s 16519 0 + r
      · rw [if_pos ⟨rfl, rfl, q⟩, if_pos ⟨rfl, rfl, q⟩]
        exact hv
      · rw [if_neg (fun z => q z.2.2), if_neg (fun z => q z.2.2)]
        exact co.2.1.2 j j0 j1
    · rw [lwT.etF, lwT.lv', show mJk T (tF s) = mJk s (tF s) from TI _ _, show mJv T (tF s) = mJv s (tF s) from TL _ _]
      obtain ⟨j, j0, j1, -, -, e⟩ := tF_of W h.2.2.2.1
      rw [e]
      exact (co.2.2.1.2 j j0 j1).2
    · unfold kO vO
      rw [TI, TI, TI, TI]
      by_cases c : 256 ≤ x
      · have ne : x ≠ r := fun z => nc (z ▸ c)
        rw [if_pos c, if_pos c, if_neg ne, if_neg ne, if_pos c, if_pos c]
        exact ⟨oA _ _ _ (by decide), oB' _ _ _ (by decide)⟩
      · rw [if_neg c, if_neg c, if_neg c, if_neg c, TA, TB]
        by_cases q : x = r
        · rw [if_pos q, if_pos q, if_pos ⟨rfl, rfl, by rw [q]⟩, if_pos ⟨rfl, rfl, by rw [q]⟩]
          exact ⟨rfl, rfl⟩
        · have ne : ¬ gI s 16519 0 + x = gI s 16519 0 + r := fun z => q (by
            have := congrArg (· - gI s 16519 0) z
            simpa [Int32.add_sub_cancel] using this)
          rw [if_neg q, if_neg q, if_neg (fun z => ne z.2.2), if_neg (fun z => ne z.2.2)]
          exact ⟨rfl, rfl⟩
  refine ⟨b0, b1, b0, b1, key _ (fun _ _ => rfl) (fun _ _ => rfl) (fun a j q => ?_) (fun a j q => ?_)⟩
  · simp only [gI_sI, gI_sL, gI_sA, gI_sB, gI_sAf, gI_sBf, gL_sI, gL_sL, gL_sA, gL_sB, gL_sAf, gL_sBf, gA_sI, gA_sL, gA_sA, gA_sB, gA_sAf, gA_sBf, gB_sI, gB_sL, gB_sA, gB_sB, gB_sAf, gB_sBf, Nat.reduceEqDiff, Nat.reduceMul, Nat.reduceAdd, false_and, true_and, and_true, and_false, if_true, if_false]
  · simp only [gI_sI, gI_sL, gI_sA, gI_sB, gI_sAf, gI_sBf, gL_sI, gL_sL, gL_sA, gL_sB, gL_sAf, gL_sBf, gA_sI, gA_sL, gA_sA, gA_sB, gA_sAf, gA_sBf, gB_sI, gB_sL, gB_sA, gB_sB, gB_sAf, gB_sBf, Nat.reduceEqDiff, Nat.reduceMul, Nat.reduceAdd, false_and, true_and, and_true, and_false, if_true, if_false]
