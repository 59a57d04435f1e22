/-! The class: the working row. -/
def wuX (f : Nat) : Prop := f = 14217 ∨ f = 15230 ∨ f = 15231 ∨ f = 19838 ∨ f = 19839
/-- only the working row has changed -/
def wuQ (s t : S1) : Prop := (∀ f j, ¬ wuX f → gI t f j = gI s f j) ∧ (∀ f j, gL t f j = gL s f j) ∧ (∀ a j k, a ≠ 118 ∧ a ≠ 154 → gA t a j k = gA s a j k) ∧ ∀ a j k, a ≠ 154 → gB t a j k = gB s a j k
theorem wuQ.refl (s : S1) : wuQ s s := ⟨fun _ _ _ => rfl, fun _ _ => rfl, fun _ _ _ _ => rfl, fun _ _ _ _ => rfl⟩
theorem wuQ.trans {s t u : S1} (a : wuQ s t) (b : wuQ t u) : wuQ s u := ⟨fun f j q => (b.1 f j q).trans (a.1 f j q), fun f j => (b.2.1 f j).trans (a.2.1 f j), fun f j k q => (b.2.2.1 f j k q).trans (a.2.2.1 f j k q), fun f j k q => (b.2.2.2 f j k q).trans (a.2.2.2 f j k q)⟩
theorem wuQ.lv {s t : S1} (h : wuQ s t) : cLv false t = cLv false s := by
  funext y u
  rw [cLv_f, cLv_f, show cN t = cN s from h.1 _ _ (by unfold wuX; decide), show cTy t y = cTy s y from h.1 _ _ (by unfold wuX; decide)]
theorem wuQ.mk {s t : S1} {n m : Nat × Nat} {τ : Bool} (h : wuQ s t) (W : cW s n) (F : qFr τ s) (R : cRo t m (0, 0)) : mkW s τ m t := by
  obtain ⟨I, L, A, B⟩ := h
  have lv' := wuQ.lv ⟨I, L, A, B⟩
  have cur : mCur t = mCur s := I _ _ (by unfold wuX; decide)
  have Hi : cHI t := W.hi.sm ⟨fun f j q _ _ => I f j (by unfold hpI at q; unfold wuX; omega), fun f j _ _ _ => L f j, fun a j k q _ => A a j k (by unfold hpA at q; omega), fun a j k q _ => B a j k (by unfold hpB at q; omega)⟩
  have pk : cPk s t := ⟨fun f j q => I f j (by unfold wuX; omega), fun a j k q => A a j k (by omega)⟩
  have rn : cRn t := by
    obtain ⟨m0, ρ, hl⟩ := W.rt.2.1
    refine ⟨by rw [cur]; exact m0, ρ, hl.congr (fun d => ?_) (fun _ _ => rfl) (fun d _ => I _ _ (by unfold wuX; decide)) cur⟩
    unfold cMb pC
    rw [I 19071 d (by unfold wuX; decide), show oSl t d = oSl s d from I _ _ (by unfold wuX; decide), cur, I 18951 d (by unfold wuX; decide)]
  have kp : cKp s t := by
    refine ⟨pk, cur, fun c a => .inl ⟨⟨⟨a.1.1, (I 19071 c (by unfold wuX; decide)).symm.trans a.1.2⟩, by rw [← show oSl t c = oSl s c from I _ _ (by unfold wuX; decide)]; exact a.2⟩, fun f q => I f c (by unfold wuX; omega), fun f j q _ _ => I f _ (by unfold wuX; omega), fun j _ _ _ l => ⟨by rw [lv']; exact l, I _ _ (by unfold wuX; decide)⟩, fun y o => ?_⟩⟩
    unfold cOp at o ⊢
    rw [lv', show cLk t y = cLk s y from I _ _ (by unfold wuX; decide)] at o
    exact ⟨o, I _ _ (by unfold wuX; decide)⟩
  refine ⟨⟨Hi, W.rt.up2 (fun y u _ l => by rw [lv']; exact l) rn (fun f q => I f 0 (by unfold wuX; omega)) (fun a j k q => A a j k (by unfold rtA at q; omega)) (fun a j k q => B a j k (by unfold rtB at q; omega)) (fun y _ => I _ _ (by unfold wuX; decide)), (I _ _ (by unfold wuX; decide)).trans W.ld, W.sf.congr (fun f j q => I f j (by unfold sfI at q; unfold wuX; omega)), R, pk.pg W.pg, fun x l => ?_⟩, kp.fr F W.dd, ⟨fun f j q => I f j (by unfold wuX; omega), fun f j _ => L f j, fun a j k q => A a j k (by omega), fun a j k q => B a j k (by omega)⟩⟩
  rw [show cLk t x = cLk s x from I _ _ (by unfold wuX; decide)]
  unfold nPr
  rw [I 12937 _ (by unfold wuX; decide)]
  rw [lv'] at l
  exact W.kl x l
theorem wk_ln (s : S1) (h : 0 ≤ (gI s 15230 0).toInt) : Int32.ofNat (lnS s 118 0) = gI s 15230 0 ∧ (lnS s 118 0 : Int) = (gI s 15230 0).toInt := by
  have e : lnS s 118 0 = (gI s 15230 0).toNatClampNeg := rfl
  have h' : 0 ≤ gI s 15230 0 := by
    rw [i32_le]
    exact h
  rw [e]
  refine ⟨ofNat_clamp h', ?_⟩
  unfold Int32.toNatClampNeg
  omega
theorem cWk_grow {w v : Nat} (w0 : 1024 ≤ w) (w1 : w < 400000) (v1 : v ≤ 400000) (hv : v = 400000 ∨ 2 * w ≤ v) : (cWk v).1 + 1 ≤ (cWk w).1 ∧ (cWk v).2 + v ≤ (cWk w).2 := by
  unfold cWk
  rw [if_neg (show ¬ 400000 ≤ w by omega)]
  have d : 2 ≤ 800000 / w := (Nat.le_div_iff_mul_le (by omega)).2 (by omega)
  by_cases z : 400000 ≤ v
  · rw [if_pos z]
    exact ⟨by show 0 + 1 ≤ _; omega, by show 0 + v ≤ _; omega⟩
  · rw [if_neg z]
    have hv' : 2 * w ≤ v := by omega
    refine ⟨?_, by show 1200000 - 2 * v + v ≤ 1200000 - 2 * w; omega⟩
    show 800000 / v + 1 ≤ 800000 / w
    have a : 800000 / v ≤ 800000 / (2 * w) := Nat.div_le_div_left hv' (by omega)
    have b : 800000 / (2 * w) = 800000 / w / 2 := by rw [Nat.mul_comm 2 w, Nat.div_div_eq_div_mul]
    omega
theorem copyW_ok {s : S1} {v : Int32} (m : Nat × Nat) (h0 : 0 ≤ (gI s 15230 0).toInt) (h1 : (gI s 15230 0).toInt < v.toInt) (h2 : v.toInt ≤ 400000) (m1 : 1 ≤ m.1) (m2 : v.toInt.toNat ≤ m.2) : ok (M_Arr_copyOf m 118 0 v) s (cpQ s m v) := by
  have e0 : (0 : Int32).toInt = 0 := rfl
  have e6 : (60000000 : Int32).toInt = 60000000 := rfl
  obtain ⟨l1, l2⟩ := wk_ln s h0
  have uc : v.toNatClampNeg = v.toInt.toNat := rfl
  simp only [M_Arr_copyOf, ok_B, ok_C, ok_R, ok_L, ok_K, ok_GI, ok_GL, ok_PI, ok_PL, ok_AI, ok_AL, ok_SI, ok_SL, ok_CI, cmp_lt, cmp_le, cmp_gt, cmp_ge, cmp_eq, nar0, nar1, Sum.elim_inl, Sum.elim_inr, ok_PzT, ok_PzC, ok_PzP, ok_PrC, ok_PrP, ok_PrF, ok_PrN, ok_Ln, ok_CL, ok_Nw, ok_S, ok_Ks, ok_Nz]
  rw [l1]
  refine ⟨fun c => ?_, fun _ => ⟨⟨by rw [i32_le]; omega, by rw [i32_le]; omega⟩, ⟨m1, by rw [uc]; exact m2⟩, ?_⟩⟩
  · rw [c] at h1
    exact absurd h1 (Int.lt_irrefl _)
  have k1 : Int32.ofNat (lnS (nwR s 154 0 v.toNatClampNeg) 118 0) = gI s 15230 0 := by
    rw [show lnS (nwR s 154 0 v.toNatClampNeg) 118 0 = lnS s 118 0 from by
      show (gI (nwR s 154 0 v.toNatClampNeg) 15230 0).toNatClampNeg = (gI s 15230 0).toNatClampNeg
      rw [gI_nwR, if_neg (fun z => absurd z.1 (by decide)), if_neg (fun z => absurd z.1 (by decide))]]
    exact l1
  have k2 : Int32.ofNat (lnS (nwR s 154 0 v.toNatClampNeg) 154 0) = v := by
    show Int32.ofNat (gI (nwR s 154 0 v.toNatClampNeg) 19838 0).toNatClampNeg = v
    rw [gI_nwR, if_neg (fun z => absurd z.1 (by decide)), if_pos ⟨rfl, rfl⟩]
    have : Int32.ofNat v.toNatClampNeg = v := ofNat_clamp (by rw [i32_le]; omega)
    rw [this, this]
  rw [k1]
  refine ok_mono (kmin_ok _ _ _) ?_
  rintro r t ⟨et, r0, r1, r2⟩
  subst et
  rw [k1, k2]
  have z1 : (gI s 15230 0 - 0).toInt = (gI s 15230 0).toInt := by rw [ktI_sub] <;> omega
  have z2 : (v - 0).toInt = v.toInt := by rw [ktI_sub] <;> omega
  have rr : 0 ≤ r.toInt := by
    rcases r0 with z | z
    · rw [z]; exact h0
    · rw [z]; omega
  refine ⟨⟨by decide, by decide, by rw [i32_le]; omega, by rw [i32_le]; exact h0, by rw [i32_le, z1]; exact r1, by rw [i32_le]; omega, by rw [i32_le, z2]; exact r2⟩, by rw [uc], fun f j q => ?_, fun _ _ => rfl, fun a j k q => ?_, fun a j k q => ?_, ?_, ?_⟩
  · show gI (nwR s 154 0 v.toNatClampNeg) f j = _
    rw [gI_nwR, if_neg (fun z => q.1 z.1), if_neg (fun z => q.2 z.1)]
  · rw [gA_sAf, if_neg (fun z => q z.1), gA_nwR, if_neg (fun z => q z.1)]
  · show gB (nwR s 154 0 v.toNatClampNeg) a j k = _
    rw [gB_nwR, if_neg (fun z => q z.1)]
  · show gI (nwR s 154 0 v.toNatClampNeg) 19839 0 = 1
    rw [gI_nwR, if_pos ⟨rfl, rfl⟩]
  · show gI (nwR s 154 0 v.toNatClampNeg) 19838 0 = v
    rw [gI_nwR, if_neg (fun z => absurd z.1 (by decide)), if_pos ⟨rfl, rfl⟩]
    exact ofNat_clamp (by rw [i32_le]; omega)
/-- the working row has grown -/
def grQ (s : S1) (v : Int32) (t : S1) : Prop := wuQ s t ∧ gI t 14217 0 = gI s 14217 0 ∧ gI t 15230 0 = v
theorem grow_w {s t : S1} {n e : Nat × Nat} {v : Int32} (R : cRo s n e) (w1 : (gI s 15230 0).toInt < 400000) (h1 : (gI s 15230 0).toInt < v.toInt) (h2 : v.toInt ≤ 400000) (hv : v.toInt = 400000 ∨ 2 * (gI s 15230 0).toInt ≤ v.toInt) (h : cNb v s t) : (1 ≤ n.1 ∧ v.toInt.toNat ≤ n.2) ∧ pN t ∧ grQ s v (mvB t 118 0) ∧ cRo (mvB t 118 0) (n.1 - 1, n.2 - v.toInt.toNat) e := by
  obtain ⟨h3, h4, h5, h6, h7, h8⟩ := h
  obtain ⟨al, a, b, c, hw, r1, r2⟩ := R
  have w0 := al.2.2.2.1.1
  have g := cWk_grow (w := (gI s 15230 0).toInt.toNat) (v := v.toInt.toNat) (by omega) (by omega) (by omega) (by omega)
  have I : ∀ f j, ¬ wuX f → gI (mvB t 118 0) f j = gI s f j := fun f j q => by
    unfold wuX at q
    rw [gI_mvB, if_neg (fun z => by omega), if_neg (fun z => by omega), if_neg (fun z => by omega), h3 f j (by omega)]
  have I2 : gI (mvB t 118 0) 15230 0 = v := by
    rw [gI_mvB, if_neg (fun z => absurd z.1 (by decide)), if_pos ⟨rfl, rfl⟩]
    exact h8
  have T : ∀ j, cTl (mvB t 118 0) j = cTl s j := fun j => by
    show gA (mvB t 118 0) _ _ _ = gA s _ _ _
    rw [gA_mvB, if_neg (fun z => absurd z.1 (by decide)), h5 _ _ _ (by decide)]
  unfold cNd at r1 r2
  refine ⟨⟨by omega, by omega⟩, h7, ⟨⟨I, fun f j => h4 f j, fun a j k q => ?_, fun a j k q => ?_⟩, ?_, I2⟩, ?_, a, b, c, ?_, ?_⟩
  · rw [gA_mvB, if_neg (fun z => q.1 z.1), h5 a j k q.2]
  · exact h6 a j k q
  · rw [gI_mvB, if_neg (fun z => absurd z.1 (by decide)), if_neg (fun z => absurd z.1 (by decide)), if_neg (fun z => absurd z.1 (by decide)), h3 _ _ (by decide)]
  · unfold cAl at al ⊢
    rw [T, T, T, T, I2, I 14220 0 (by unfold wuX; decide)]
    exact ⟨al.1, al.2.1, al.2.2.1, ⟨by omega, h2⟩, al.2.2.2.2⟩
  · unfold cHw at hw ⊢
    simp only [I 18687 _ (by unfold wuX; decide), I 18559 _ (by unfold wuX; decide), I 19071 _ (by unfold wuX; decide), I 18815 _ (by unfold wuX; decide), I 18943 _ (by unfold wuX; decide), I 18942 _ (by unfold wuX; decide), I 18814 _ (by unfold wuX; decide)]
    exact hw
  · unfold cNd
    rw [T, T, T, I2]
    dsimp only at r1 r2 ⊢
    omega
