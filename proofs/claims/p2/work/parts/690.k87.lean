/-! The class: a joining, and the number. -/
/-- only the place in a joining of one frame has changed -/
def KJ (f : Int32) (s t : S1) : Prop := (∀ g i, foI g → (g = 19464 → i ≠ f) → gI t g i = gI s g i) ∧ (∀ i j, gA t 104 i j = gA s 104 i j) ∧ (∀ i, gI t 18950 i = gI s 18950 i ∨ gI t 18950 i = -1) ∧ (∀ i, gI t 18952 i = gI s 18952 i ∨ gI t 18952 i = 1)
theorem KJ.refl (f : Int32) (s : S1) : KJ f s s := ⟨fun _ _ _ _ => rfl, fun _ _ => rfl, fun _ => .inl rfl, fun _ => .inl rfl⟩
theorem KJ.kor {f : Int32} {c u : Bool} {s t w : S1} (q : KJ f s t) (h : Kor c u t w) : KJ f s w := by
  obtain ⟨h1, h2, h3, h4, -, -⟩ := h
  obtain ⟨q1, q2, q3, q4⟩ := q
  refine ⟨fun g i a b => (h1 g i a).trans (q1 g i a b), fun i j => (h2 i j).trans (q2 i j), fun i => ?_, fun i => ?_⟩
  · rcases h3 i with z | z
    · rw [z]
      exact q3 i
    · exact .inr z
  · rcases h4 i with z | z
    · rw [z]
      exact q4 i
    · exact .inr z
theorem KJ.set {f : Int32} {s t : S1} (q : KJ f s t) (x : Int32) : KJ f s (sI t 19464 f x) := by
  have g : ∀ k i, k ≠ 19464 → gI (sI t 19464 f x) k i = gI t k i := fun k i z => by rw [gI_sI, if_neg (fun y => z y.1)]
  refine ⟨fun k i a b => ?_, q.2.1, fun i => by rw [g _ _ (by decide)]; exact q.2.2.1 i, fun i => by rw [g _ _ (by decide)]; exact q.2.2.2 i⟩
  rw [gI_sI, if_neg (fun y => b y.1 y.2)]
  exact q.1 k i a b
theorem KJ.oM {s t : S1} {n : Nat × Nat} (W : cW s n) (d1 : 1 ≤ (oD s (mCur s)).toInt) (h : KJ (tF s) s t) (x : Nat) (hj : jf t (tF s) + x ≤ jf s (tF s)) : Om t + 2405 * x ≤ Om s := by
  have ac := W.cur
  have hc := ac.1.1
  obtain ⟨-, dD, -⟩ := W.hi.dep ac
  have e1 : (1 : Int32).toInt = 1 := rfl
  obtain ⟨pf, r, rl⟩ := pT_of W d1
  have od : ∀ d, oD t d = oD s d := fun d => h.1 _ _ (by unfold foI; decide) (fun z => absurd z (by decide))
  have iu : ∀ d, iU t d → iU s d := fun d a => by
    refine ⟨(h.1 19071 d (by unfold foI; decide) (fun z => absurd z (by decide))).symm.trans a.1, ?_⟩
    rcases h.2.2.1 d with z | z
    · rw [show oSl s d = oSl t d from z.symm]
      exact a.2
    · have := a.2
      rw [show oSl t d = -1 from z] at this
      exact absurd this (by decide)
  have jE : ∀ f, f ≠ tF s → jf t f = jf s f := fun f q => jf_eq (h.1 _ _ (by unfold foI; decide) (fun _ => q)) (h.1 _ _ (by unfold foI; decide) (fun _ => q)) (h.1 _ _ (by unfold foI; decide) (fun _ => q)) (h.1 _ _ (by unfold foI; decide) (fun _ => q)) (fun k j r => h.1 k j (by unfold foI; omega) (fun z => by omega)) h.2.1
  show Om t + 2405 * x ≤ Om s + 0
  refine Om_one hc (fun d hd q => (om_le fun a => ⟨iu d a, h.2.2.2 d, by rw [od]; exact Nat.le_refl _, fun j hj => jE _ ?_⟩).1) ?_
  · have := W.hi.dn hd (iu d a)
    rw [od] at hj
    exact fm_ne hd hc (fI (c := d) (by omega)) r q
  · have b : iU s (mCur s) := ⟨ac.1.2, ac.2⟩
    have cd := clampI dD.1
    have er : (oD s (mCur s) - 1).toInt = (oD s (mCur s)).toInt - 1 := by rw [ktI_sub] <;> omega
    have cr := clampI (x := oD s (mCur s) - 1) (by omega)
    have js : jS t (mCur s) + x ≤ jS s (mCur s) := by
      unfold jS
      rw [od]
      show _ ≤ sg _ _ + 0
      refine sg_one (oD s (mCur s) - 1).toNatClampNeg _ (by omega) (fun i hi hn => Nat.le_of_eq (jE _ (fun z => hn ?_))) ?_
      · have := fm_inj1 hc (fI (c := mCur s) (j := i) (by omega)) r z
        have e2 := congrArg Int32.toInt this
        have e : (Int32.ofNat i).toInt = i := ofNat_toInt (by omega)
        omega
      · rw [ofNat_clamp r.1]
        exact hj
    by_cases a : iU t (mCur s)
    · rw [om_u a, om_u b, od]
      have k : (if gI t 18952 (mCur s) = 0 then 1200 else 0) ≤ (if gI s 18952 (mCur s) = 0 then 1200 else 0) := by
        rcases h.2.2.2 (mCur s) with z | z
        · rw [z]
          exact Nat.le_refl _
        · rw [z, if_neg (by decide)]
          exact Nat.zero_le _
      generalize (if gI t 18952 (mCur s) = 0 then 1200 else 0) = p at k ⊢
      generalize (if gI s 18952 (mCur s) = 0 then 1200 else 0) = q at k ⊢
      omega
    · rw [om_n a, om_u b]
      omega
theorem jf_at {s : S1} {n : Nat × Nat} {i w : Int32} (x : Ix s n i w) (pt : gI s 19461 (tF s) = i + 1) (o : dO w = 29) : jf s (tF s) = Nat.min ((gI s 19464 (tF s)).toInt - (dB w).toInt + 1).toNat (pNr s (fPr s (tF s))).toNat := by
  obtain ⟨e1, e2⟩ := pcp x
  unfold jf fJa
  rw [show fPc s (tF s) = i + 1 from pt, e2, x.2.2.2.2.2.2.2.2, if_pos ⟨x.2.2.2.2.1, o⟩]
theorem mn_lt {a b p : Int} (h : a + 1 ≤ b) (k : 0 ≤ a) (q : b ≤ p) : Nat.min a.toNat p.toNat + 1 ≤ Nat.min b.toNat p.toNat := by
  have e : Nat.min b.toNat p.toNat = b.toNat := Nat.min_eq_left (by omega)
  have f : Nat.min a.toNat p.toNat ≤ a.toNat := Nat.min_le_left _ _
  omega
theorem mn_le {a b p : Int} (h : a ≤ b) : Nat.min a.toNat p.toNat + 0 ≤ Nat.min b.toNat p.toNat := Nat.le_min.2 ⟨Nat.le_trans (Nat.min_le_left _ _) (by omega), Nat.min_le_right _ _⟩
theorem sub_m1 (l : Int32) : l - 1 = l + -1 := by
  rw [Int32.sub_eq_add_neg]
def jmI (s : S1) (i w : Int32) (y : Int32 × (Nat × Nat)) (t : S1) : Prop := (jst t y.2 i w ∧ (dB w).toInt - 1 ≤ y.1.toInt ∧ y.1.toInt < (dC w).toInt) ∧ KJ (tF s) s t ∧ tF t = tF s ∧ mCur t = mCur s ∧ gI t 19464 (tF s) = y.1 ∧ y.1.toInt ≤ (gI s 19464 (tF s)).toInt
def jmE (s t : S1) : Prop := KJ (tF s) s t ∧ tF t = tF s ∧ mCur t = mCur s ∧ (gI t 19464 (tF s)).toInt ≤ (gI s 19464 (tF s)).toInt
def jmP (s : S1) (i w : Int32) (e : (Int32 × (Nat × Nat)) ⊕ (Int32 × (Nat × Nat)) ⊕ (Nat × Nat)) (t : S1) : Prop := Sum.elim (fun y => (jst t y.2 i w ∧ (dB w).toInt ≤ y.1.toInt ∧ y.1.toInt < (dC w).toInt) ∧ KJ (tF s) s t ∧ tF t = tF s ∧ mCur t = mCur s ∧ (gI t 19464 (tF s)).toInt + 1 ≤ (gI s 19464 (tF s)).toInt ∧ (dB w).toInt ≤ (gI t 19464 (tF s)).toInt + 1) (Sum.elim (fun y => jst t y.2 i w ∧ jmE s t) (fun m => jst t m i w ∧ jmE s t)) e
theorem joinLM {s : S1} {n : Nat × Nat} {i w l : Int32} (h : jst s n i w) (o : dO w = 29) (l0 : (dB w).toInt - 1 ≤ l.toInt) (l1 : l.toInt < (dC w).toInt) (lj : gI s 19464 (tF s) = l) : ok (oW M_St_joinOn_L12 (l, n)) s (jmP s i w) := by
  have e0 : (0 : Int32).toInt = 0 := rfl
  have e1 : (1 : Int32).toInt = 1 := rfl
  have em : (-1 : Int32).toInt = -1 := rfl
  have o' := opI o
  have k29 : (29 : Int32).toInt = 29 := rfl
  have dBi := dB_in w
  have dCi := dC_in w
  refine ok_W (jmI s i w) (fun y _ => (y.1.toInt + 1).toNat) ?_ (l, n) s ⟨⟨h, l0, l1⟩, KJ.refl _ s, rfl, rfl, lj, by rw [lj]; exact Int.le_refl _⟩
  clear lj
  rintro ⟨l, m⟩ t ⟨⟨j, l0, l1⟩, kj, ef, ecu, lj, ll⟩
  dsimp only at j l0 l1 lj ll
  have x := j.1
  obtain ⟨a1, a2, a3, a4⟩ := x.2.2.2.2.2.1
  have pf := x.tp.2.2.2.2.1
  have wn := x.wn.2.2.2.2.2.2.2.2.2.2.2.2.1 (by omega)
  simp only [M_St_joinOn_L12, ok_B, ok_C, ok_R, ok_L, ok_K, ok_GI, ok_GL, ok_PI, ok_PL, ok_AI, ok_AL, ok_SI, ok_SL, ok_CI, cmp_lt, cmp_le, cmp_gt, cmp_ge, cmp_eq, nar0, nar1, Sum.elim_inl, Sum.elim_inr, ok_PzT, ok_PzC, ok_PzP, ok_PrC, ok_PrP, ok_PrF, ok_PrN, ok_Ln, ok_CL, ok_Nw, ok_S, ok_Ks, ok_Nz]
  rw [x.o.2.2.1]
  refine ⟨fun _ => ⟨j, kj, ef, ecu, by rw [lj]; exact ll⟩, fun c => ?_⟩
  rw [i32_lt] at c
  rw [a2]
  refine ⟨pf, ?_⟩
  have em1 : (l - 1).toInt = l.toInt - 1 := by rw [ktI_sub] <;> omega
  obtain ⟨lt1, x1⟩ := joinAt_ix x (l - 1)
  have g1 : ∀ f j, f ≠ 19464 → gI (sI t 19464 (tF t) (l - 1)) f j = gI t f j := fun f j q => by rw [gI_sI, if_neg (fun z => q z.1)]
  have g2 : gI (sI t 19464 (tF t) (l - 1)) 19464 (tF t) = l - 1 := by rw [gI_sI, if_pos ⟨rfl, rfl⟩]
  have kj1 : KJ (tF s) s (sI t 19464 (tF t) (l - 1)) := by
    rw [ef]
    exact kj.set (l - 1)
  generalize sI t 19464 (tF t) (l - 1) = t1 at lt1 x1 g1 g2 kj1 ⊢
  have et := lt1.etF
  have ef1 : tF t1 = tF s := et.trans ef
  have ec1 : mCur t1 = mCur s := (g1 _ _ (by decide)).trans ecu
  have lj1 : gI t1 19464 (tF s) = l - 1 := by rw [← ef]; exact g2
  have ea : (gI t1 19464 (tF s)).toInt + 1 = l.toInt := by rw [lj1, em1]; exact Int.sub_add_cancel _ _
  have inl_ : (gI t1 19464 (tF s)).toInt + 1 ≤ (gI s 19464 (tF s)).toInt ∧ (dB w).toInt ≤ (gI t1 19464 (tF s)).toInt + 1 := by
    rw [ea]
    exact ⟨ll, jr_le c⟩
  have j1 : jst t1 m i w := by
    refine ⟨x1, by rw [et, g1 _ _ (by decide)]; exact j.2.1, (g1 _ _ (by decide)).trans j.2.2.1, ?_⟩
    unfold jrg
    rw [et, g2, em1]
    exact jr_step c l1
  have wn1 := x1.wn.2.2.2.2.2.2.2.2.2.2.2.2.1 (by omega)
  have hx := x1.xr (r := l) (by omega) (by omega)
  have pf1 := x1.tp.2.2.2.2.1
  have a21 := x1.2.2.2.2.2.1.2.1
  rw [ok_kO x1 hx]
  refine ok_mono (isText_ok _ _) ?_
  rintro r u ⟨eu, -⟩
  rw [eu]
  refine ⟨fun _ => ⟨⟨j1, jr_le c, l1⟩, kj1, ef1, ec1, inl_⟩, fun _ => ?_⟩
  rw [a21]
  refine ⟨pf1, ?_⟩
  refine ok_mono (isText_ok _ _) ?_
  rintro r' u' ⟨eu, -⟩
  rw [eu]
  refine ⟨fun _ => ⟨⟨j1, jr_le c, l1⟩, kj1, ef1, ec1, inl_⟩, fun _ => ?_⟩
  rw [ok_kO x1 hx, ok_vO x1 hx]
  refine ok_mono ((joined_ok x1 (x1.kv0 hx)).wh ((ko_St_joined m _ _).h t1)) ?_
  rintro ⟨v, m2⟩ t2 ⟨⟨mk, q⟩, ko⟩
  have j2 := j1.mk mk
  have kj2 := kj1.kor ko
  have ec2 : mCur t2 = mCur s := (ko.2.2.2.2.1 rfl).trans ec1
  have ef2 : tF t2 = tF s := by
    have e3 : tF t2 = tF t1 := by
      unfold tF
      rw [show mCur t2 = mCur t1 from ko.2.2.2.2.1 rfl, ko.od]
    exact e3.trans ef1
  have lj2 : gI t2 19464 (tF s) = l - 1 := (ko.1 _ _ (by unfold foI; decide)).trans lj1
  dsimp only at q j2 mk ⊢
  have x2 := j2.1
  have a22 := x2.2.2.2.2.2.1.2.1
  have pf2 := x2.tp.2.2.2.2.1
  simp only [gI_sI, gI_sL, gI_sA, gI_sB, gI_sAf, gI_sBf, gL_sI, gL_sL, gL_sA, gL_sB, gL_sAf, gL_sBf, gA_sI, gA_sL, gA_sA, gA_sB, gA_sAf, gA_sBf, gB_sI, gB_sL, gB_sA, gB_sB, gB_sAf, gB_sBf, Nat.reduceEqDiff, Nat.reduceMul, Nat.reduceAdd, false_and, true_and, and_true, and_false, if_true, if_false]
  rw [a22]
  refine ⟨fun v0 => ?_, fun _ => ⟨j2, kj2, ef2, ec2, by rw [lj2, em1]; exact Int.le_trans (Int.sub_le_self _ (by decide)) ll⟩⟩
  have lv : cLv false t2 v 4 := by
    rcases q with q | q
    · rcases q with z | z <;> rw [z] at v0 <;> exact absurd v0 (by decide)
    · exact q.2
  have cv : cV (cLv false t2) 4 v.toInt64 := cV.obj (.inl rfl) v0 lv
  have key : ∀ T : S1, (∀ f j, gI T f j = if f = 19462 ∧ j = tF t2 then 4 else gI t2 f j) → (∀ f j, gL T f j = if f = 19463 ∧ j = tF t2 then v.toInt64 else gL t2 f j) → T.2.2 = t2.2.2 → jst T m2 i w ∧ KJ (tF s) s T ∧ tF T = tF s ∧ mCur T = mCur s ∧ gI T 19464 (tF s) = l + -1 := fun T TI TL T2 => by
    have t6 : gI T 16396 0 = gI t2 16396 0 := by rw [TI, if_neg (fun z => absurd z.1 (by decide))]
    obtain ⟨xT, lT⟩ := join_ix (kk := 4) (vv := v.toInt64) x2 cv (fun f j => by
      by_cases z : f = 16396 ∧ j = 0
      · rw [if_pos z, z.1, z.2]
      · rw [if_neg z, TI]) TL T2
    have gT : ∀ f j, f ≠ 19462 → gI T f j = gI t2 f j := fun f j q => by rw [TI, if_neg (fun z => q z.1)]
    have kT : Kor true true t2 T := ⟨fun f j q => gT f j (by unfold foI at q; omega), fun a b => by show T.2.2.1 _ _ _ = t2.2.2.1 _ _ _; rw [T2], fun a => .inl (gT _ _ (by decide)), fun a => .inl (gT _ _ (by decide)), fun _ => gT _ _ (by decide), fun _ => gT _ _ (by decide)⟩
    refine ⟨⟨xT, ?_, t6.trans j2.2.2.1, ?_⟩, kj2.kor kT, lT.etF.trans ef2, (gT _ _ (by decide)).trans ec2, ((gT _ _ (by decide)).trans lj2).trans (sub_m1 l)⟩
    · rw [lT.etF, TI, if_neg (fun z => absurd z.1 (by decide))]
      exact j2.2.1
    · unfold jrg
      rw [lT.etF, TI, if_neg (fun z => absurd z.1 (by decide))]
      exact j2.2.2.2
  have lm : (l + -1).toInt = l.toInt - 1 := l_m1 (jr_lo l0 dBi.1)
  have fin : ∀ {T : S1}, (jst T m2 i w ∧ KJ (tF s) s T ∧ tF T = tF s ∧ mCur T = mCur s ∧ gI T 19464 (tF s) = l + -1) → jmI s i w (l + -1, m2) T := fun {T} q => ⟨⟨q.1, by dsimp only; rw [lm]; exact (jr_step c l1).1, by dsimp only; rw [lm]; exact (jr_step c l1).2⟩, q.2.1, q.2.2.1, q.2.2.2.1, q.2.2.2.2, by dsimp only; rw [lm]; exact Int.le_trans (Int.sub_le_self _ (by decide)) ll⟩
  refine ⟨pf2, ⟨pf2.1, by simp only [gI_sI, gI_sL, gI_sA, gI_sB, gI_sAf, gI_sBf, gL_sI, gL_sL, gL_sA, gL_sB, gL_sAf, gL_sBf, gA_sI, gA_sL, gA_sA, gA_sB, gA_sAf, gA_sBf, gB_sI, gB_sL, gB_sA, gB_sB, gB_sAf, gB_sBf, Nat.reduceEqDiff, Nat.reduceMul, Nat.reduceAdd, false_and, true_and, and_true, and_false, if_true, if_false]; exact pf2.2⟩, fin (key _ (fun f j => ?_) (fun f j => ?_) rfl), by rw [lm]; exact jr_mu c dBi.1⟩
  · simp only [gI_sI, gI_sL]
  · simp only [gL_sI, gL_sL]
