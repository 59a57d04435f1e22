/-! The class: the collection. -/
/-- all that waits is worked off -/
theorem reachAll_ok {b s : S1} (hb : cMk b s) (H : cHI s) (hg : cGr s) (hk0 : cBlk (fun _ => False) s) (hc : (cWc s).toNatClampNeg ≤ cMc s) :
    ok (oW M_He_clean_L230 0) s (fun _ s' => cMk b s' ∧ cMk s s' ∧ cHI s' ∧ ∀ x, 0 ≤ x → x < cN s' → cRe s' x ≠ 0 → cPv (cLv true s') s' x) := by
  have e0 : (0 : Int32).toInt = 0 := rfl
  have e1 : (1 : Int32).toInt = 1 := rfl
  have e4 : (4000 : Int32).toInt = 4000 := rfl
  refine ok_W (fun n s1 => (0 ≤ n.toInt ∧ n.toInt ≤ 4000) ∧ cMk b s1 ∧ cMk s s1 ∧ cHI s1 ∧ cGr s1 ∧ cBlk (fun _ => False) s1 ∧ n.toInt.toNat + (cWc s1).toNatClampNeg ≤ cMc s1) (fun n _ => (4000 - n.toInt).toNat) ?_ _ _ ⟨⟨by omega, by omega⟩, hb, .refl s, H, hg, hk0, by rw [e0]; omega⟩
  rintro n s1 ⟨hn, hbk, hsk, H1, g1, b1, c1⟩
  have cle := cMc_le s1
  have done : cWc s1 = 0 → ∀ x, 0 ≤ x → x < cN s1 → cRe s1 x ≠ 0 → cPv (cLv true s1) s1 x := fun z x x0 x1 m => by
    rcases b1 x x0 x1 m (fun w => w) with t4 | ⟨i, i0, i1, -⟩ | w
    · exact cPv.of4 t4 ((H1.2.1 x x0 x1).2.1.1 t4)
    · rw [z] at i1
      exact absurd i1 (by clear H1 b1 g1; grind)
    · exact w
  have w0 := g1.1
  simp only [M_He_clean_L230, M_He_clean_j299, ok_B, ok_C, ok_R, ok_L, ok_K, ok_GI, ok_GL, ok_PI, ok_PL, ok_AI, ok_AL, ok_SI, ok_SL, ok_Pr, ok_CI, cmp_lt, cmp_le, cmp_gt, cmp_ge, cmp_eq, nar0, nar1, Sum.elim_inl, Sum.elim_inr, ok_PzT, ok_PzC]
  refine ⟨fun d => ⟨hbk, hsk, H1, done ?_⟩, fun d => ⟨fun e => ⟨hbk, hsk, H1, done ?_⟩, fun e => ?_⟩⟩
  · change cWc s1 ≤ 0 at d
    clear H1 b1 g1 done
    grind
  · rw [i32_le] at e
    rw [i32_le] at w0
    apply toInt_inj
    unfold Int32.toNatClampNeg at c1
    omega
  have n4 : n.toInt < 4000 := by
    rw [i32_le] at e
    omega
  have en : (n + 1).toInt = n.toInt + 1 := by
    rw [ktI_add] <;> omega
  have wpos : 0 < cWc s1 := by
    change ¬ cWc s1 ≤ 0 at d
    clear H1 b1 g1 done
    grind
  have wle := g1.le H1.1
  have n44 := H1.1.1.2
  have ew : gI (sI s1 14219 0 (gI s1 14219 0 - 1)) 14219 0 = cWc s1 - 1 := by
    rw [gI_sI, if_pos ⟨rfl, rfl⟩]
  have wr : 0 ≤ cWc s1 - 1 ∧ cWc s1 - 1 < 4000 := by
    clear H1 b1 g1 done
    grind
  have wl : cWc s1 - 1 < cWc s1 := by
    clear H1 b1 g1 done
    grind
  have hmk : cMk s1 (sI s1 14219 0 (gI s1 14219 0 - 1)) := by
    refine ⟨fun f i q => ?_, fun _ _ => rfl, fun _ _ _ _ => rfl, fun _ _ _ => rfl, fun x q => ?_⟩
    · rw [gI_sI, if_neg (fun w => q.2 w.1)]
    · unfold cRe at q ⊢
      rw [gI_sI, if_neg (fun w => absurd w.1 (by decide))]
      exact q
  have er : ∀ x, cRe (sI s1 14219 0 (gI s1 14219 0 - 1)) x = cRe s1 x := fun x => by
    unfold cRe
    rw [gI_sI, if_neg (fun w => absurd w.1 (by decide))]
  have et : ∀ i, cWt (sI s1 14219 0 (gI s1 14219 0 - 1)) i = cWt s1 i := fun i => rfl
  have et2 : ∀ i, gA (sI s1 14219 0 (gI s1 14219 0 - 1)) 119 0 i = cWt s1 i := fun i => rfl
  rw [ew, et2]
  generalize sI s1 14219 0 (gI s1 14219 0 - 1) = b' at ew hmk er et
  have H' := H1.bz hmk.bz
  obtain ⟨gr, gm, gt5, gt9⟩ := g1.2.1 (cWc s1 - 1) wr.1 wl
  generalize hx : cWt s1 (cWc s1 - 1) = x at gr gm gt5 gt9
  have enb : cN b' = cN s1 := hmk.I _ (by decide) _
  have ewc : cWc b' = cWc s1 - 1 := ew
  have mcb : cMc b' = cMc s1 := by
    unfold cMc
    rw [enb]
    simp only [er]
  have gb : cGr b' := by
    unfold cGr
    rw [ewc, enb]
    simp only [et, er, show ∀ y, cTy b' y = cTy s1 y from fun y => hmk.I _ (by decide) _]
    exact ⟨wr.1, fun i a c => g1.2.1 i a (by clear H1 b1 g1 done H'; grind), fun i j a c f => g1.2.2 i j a c (by clear H1 b1 g1 done H'; grind)⟩
  have mi : MI (fun y => y = x) b' b' := by
    refine ⟨.refl b', H'.1, gb, fun y y0 y1 m ne => ?_, Nat.le_refl _⟩
    rw [enb] at y1
    rw [er] at m
    rcases b1 y y0 y1 m (fun w => w) with t4 | ⟨i, i0, i1, i2⟩ | w
    · exact .inl ((hmk.I _ (by decide) _).trans t4)
    · refine .inr (.inl ⟨i, i0, ?_, ?_⟩)
      · rw [ewc]
        have : i ≠ cWc s1 - 1 := fun q => ne (by rw [← i2, q]; exact hx)
        clear H1 b1 g1 done H' gb
        grind
      · rw [et]
        exact i2
    · exact .inr (.inr (w.mk hmk))
  have x1 : x < cN b' := by
    rw [enb]
    exact gr.2
  have th := H'.2.1 x gr.1 x1
  have ety : cTy b' x = cTy s1 x := hmk.I _ (by decide) _
  have fin : ∀ s', MI (fun y => y = x) b' s' → cMk b' s' → cPv (cLv true s') s' x → (0 ≤ (n + 1).toInt ∧ (n + 1).toInt ≤ 4000) ∧ cMk b s' ∧ cMk s s' ∧ cHI s' ∧ cGr s' ∧ cBlk (fun _ => False) s' ∧ (n + 1).toInt.toNat + (cWc s').toNatClampNeg ≤ cMc s' := fun s' m k v => by
    refine ⟨by rw [en]; omega, (hbk.trans hmk).trans k, (hsk.trans hmk).trans k, H'.bz k.bz, m.2.2.1, fun y y0 y1 mk _ => ?_, ?_⟩
    · by_cases q : y = x
      · rw [q]
        exact .inr (.inr v)
      · exact m.2.2.2.1 y y0 y1 mk q
    · have cc := m.2.2.2.2
      have e2 : (cWc b').toNatClampNeg = (cWc s1).toNatClampNeg - 1 := by
        rw [ewc]
        unfold Int32.toNatClampNeg
        rw [i32_lt] at wpos
        rw [ktI_sub]
        · omega
        · have := Int32.toInt_lt (cWc s1)
          omega
      have p1 : 0 < (cWc s1).toNatClampNeg := by
        unfold Int32.toNatClampNeg
        rw [i32_lt] at wpos
        omega
      rw [en]
      rw [mcb, e2] at cc
      omega
  have px := H'.1.2 x gr.1 x1
  refine ⟨wr, px, fun f => ?_, fun f => ?_⟩
  · have f' : cTy b' x = 7 := f
    obtain ⟨p1, p2, p3⟩ := th.2.1.2.2.2.1 f'
    refine ⟨p1, ok_mono (reachCo_ok mi x H'.1 f' th.2.1 ?_) ?_⟩
    · exact (H'.2.2.2.2.1.1 _ p1 (by rw [p2]; exact gr.1)).2.2
    · rintro - s' ⟨m, k, v⟩
      exact ⟨fin s' m k v, by rw [en]; omega⟩
  · have f' : cTy b' x ≠ 7 := f
    obtain ⟨S, W, tp, -⟩ := H'.2.2.2.2.2
    have e5 : (50000 : Int32).toInt = 50000 := rfl
    refine ok_mono (reachFrom_ok mi x ⟨gr.1, x1⟩ th.2.1 th.2.2.1 (by rw [i32_le]; omega) ?_) ?_
    · rw [← ety] at gt5 gt9
      have s6 := six th.1 (fun z => by rw [z] at gt5; exact absurd gt5 (by decide))
      rcases s6 with q | q | q | q | q | q
      · rw [q] at gt5
        exact absurd gt5 (by decide)
      · exact .inl q
      · exact .inr (.inl q)
      · exact absurd q f'
      · exact .inr (.inr (.inl q))
      · exact .inr (.inr (.inr q))
    · rintro - s' ⟨m, k, v⟩
      exact ⟨fin s' m k v, by rw [en]; omega⟩
theorem clean_ok {s : S1} (H : cHI s) (R : cRt s) : ok M_He_clean s (fun _ s' => cHI s' ∧ cRt s' ∧ cGc s s') := by
  obtain ⟨R1, R2, R3, R4, R5, R6⟩ := R
  obtain ⟨ρ, hl⟩ := R2.2
  simp only [M_He_clean, M_He_clean_j112, M_He_clean_j305, ok_B, ok_C, ok_R, ok_L, ok_K, ok_GI, ok_GL, ok_PI, ok_PL, ok_AI, ok_AL, ok_SI, ok_SL, ok_CI, cmp_lt, cmp_le, cmp_gt, cmp_ge, cmp_eq, nar0, nar1, Sum.elim_inl, Sum.elim_inr, ok_PzT, ok_PzC, ok_PzP, ok_PrC, ok_PrP, ok_PrF, ok_PrN, ok_Ln, ok_CL, ok_Nw, ok_S, ok_Ks, ok_Nz]
  refine ⟨by decide, by decide, ?_⟩
  have n1 : ∀ f i, gI (sA s 114 0 5 (gA s 114 0 5 + 1)) f i = gI s f i := fun _ _ => rfl
  have bz0 : cBz s (sA s 114 0 5 (gA s 114 0 5 + 1)) := by
    refine ⟨fun _ _ _ => rfl, fun _ _ => rfl, fun a i j q => ?_, fun _ _ _ => rfl, fun j q => ?_⟩
    · rw [gA_sA, if_neg (fun w => q.2 w.1)]
    · unfold cTl
      rw [gA_sA, if_neg (fun w => q w.2.2)]
  refine ok_mono (init_ok (s := sA s 114 0 5 (gA s 114 0 5 + 1)) ((cNr.bz bz0).2 H.1) (fun x a b => (H.2.1 x a b).2.2.2.1)) ?_
  rintro - s1 ⟨i1, j1, m1⟩
  have bz : cBz s (sI s1 14219 0 0) := by
    refine ⟨fun f i q => ?_, fun f i => ?_, fun a i j q => ?_, fun a i j => ?_, fun j q => ?_⟩
    · rw [gI_sI, if_neg (fun w => q.2 w.1), i1 f i q.1, n1]
    · show gL s1 f i = gL s f i
      unfold gL
      rw [j1]
      rfl
    · show gA s1 a i j = gA s a i j
      have : gA s1 a i j = gA (sA s 114 0 5 (gA s 114 0 5 + 1)) a i j := by
        show s1.2.2.1 a i j = _
        rw [j1]
        rfl
      rw [this, gA_sA, if_neg (fun w => q.2 w.1)]
    · show gB s1 a i j = gB s a i j
      unfold gB
      rw [j1]
      rfl
    · show gA s1 114 0 j = gA s 114 0 j
      have : gA s1 114 0 j = gA (sA s 114 0 5 (gA s 114 0 5 + 1)) 114 0 j := by
        show s1.2.2.1 114 0 j = _
        rw [j1]
        rfl
      rw [this, gA_sA, if_neg (fun w => q w.2.2)]
  have mz : ∀ x, 0 ≤ x → x < cN s → cRe (sI s1 14219 0 0) x = cSy s x := fun x a b => by
    unfold cRe
    rw [gI_sI, if_neg (fun w => absurd w.1 (by decide))]
    exact m1 x a b
  have wz : cWc (sI s1 14219 0 0) = 0 := by
    unfold cWc
    rw [gI_sI, if_pos ⟨rfl, rfl⟩]
  generalize sI s1 14219 0 0 = b at bz mz wz
  have Hb := H.bz bz
  have enb : cN b = cN s := bz.I _ (by decide) _
  have mi : MI (fun _ => False) b b := by
    refine ⟨.refl b, Hb.1, ⟨by rw [wz]; decide, fun i a c => ?_, fun i j a c d => ?_⟩, fun x x0 x1 m _ => ?_, Nat.le_refl _⟩
    · rw [wz] at c
      exact absurd c (by clear H Hb; grind)
    · rw [wz] at d
      exact absurd d (by clear H Hb; grind)
    · rw [enb] at x1
      rw [mz x x0 x1] at m
      exact .inl ((bz.I _ (by decide) _).trans ((H.2.1 x x0 x1).2.2.2.2.1 m))
  have lvb : ∀ {x t}, cLv false b x t ↔ cLv false s x t := fun {x t} => cLv.bz bz
  have lvb' := cLv.bz' bz
  have eg : gI b 16394 0 = gI s 16394 0 := bz.I _ (by decide) _
  rw [eg]
  refine ok_mono (reachL_ok mi 5 _ (by decide) (.inr ((lvb.2 R1).r59 (by decide) (by decide)))) ?_
  rintro - s2 ⟨m2, k2, v2⟩
  have ecu : gI s2 16395 0 = mCur b := m2.1.I _ (by decide) _
  rw [ecu]
  have mbb : ∀ c, cMb b c ↔ cMb s c := fun c => by
    unfold cMb pC
    rw [bz.I 19071 (by decide), bz.I 18951 (by decide), show oSl b c = oSl s c from bz.I _ (by decide) _, show mCur b = mCur s from bz.I _ (by decide) _]
  have ecb : mCur b = mCur s := bz.I _ (by decide) _
  have hlb : Ls (cMb b) ρ (oRs b) (mCur b) := hl.congr mbb (fun _ _ => rfl) (fun c _ => bz.I _ (by decide) _) ecb
  have Rb : cRn b := ⟨by rw [ecb]; exact R2.1, ρ, hlb⟩
  have mcur := hlb.1 Rb.1
  have p2 : pC s2 (mCur b) := by
    have := mcur.1
    unfold pC at this ⊢
    rw [m2.1.I 19071 (by decide)]
    exact this
  refine ⟨p2, ok_mono (reachRs_ok m2 Hb Rb ρ hlb) ?_⟩
  rintro e s3 ⟨m3, k3, me, v3⟩
  have l7 : ∀ c, cMb b c → cLv false b (oSl b c) 7 := fun c m => (Hb.2.2.2.2.1.1 c m.1 m.2.1).1
  rw [show gI s3 18950 e = oSl b e from m3.1.I _ (by decide) _]
  refine ok_mono (reachL_ok m3 7 _ (by decide) (.inr ((l7 e me).r59 (by decide) (by decide)))) ?_
  rintro - s4 ⟨m4, k4, v4⟩
  have allc : ∀ c, cMb b c → cRe s4 (oSl b c) ≠ 0 := fun c m => by
    by_cases q : c = e
    · rw [q]
      exact v4 me.2.1
    · exact k4.2.2.2.2 _ (v3 c m q)
  rw [show gI s4 18050 0 = gI s 18050 0 from (m4.1.I _ (by decide) _).trans (bz.I _ (by decide) _)]
  refine ok_mono (reachRow_ok m4 142 143 _ (by decide) (by decide) (by decide) R3.1 (fun i a c => by
    rw [bz.A 142 (by decide), bz.B 143, lvb']
    exact R3.2 i a c)) ?_
  rintro - s5 ⟨m5, k5, v5⟩
  rw [show gI s5 17666 0 = gI s 17666 0 from (m5.1.I _ (by decide) _).trans (bz.I _ (by decide) _)]
  refine ok_mono (reachRow_ok m5 139 140 _ (by decide) (by decide) (by decide) R4.1 (fun i a c => by
    rw [bz.A 139 (by decide), bz.B 140, lvb']
    exact R4.2 i a c)) ?_
  rintro - s6 ⟨m6, k6, v6⟩
  rw [show gI s6 16898 0 = gI s 16898 0 from (m6.1.I _ (by decide) _).trans (bz.I _ (by decide) _)]
  refine ok_mono (reachRow_ok m6 133 134 _ (by decide) (by decide) (by decide) R5.1 (fun i a c => by
    rw [bz.A 133 (by decide), bz.B 134, lvb']
    exact R5.2 i a c)) ?_
  rintro - s7 ⟨m7, k7, v7⟩
  have H7 := Hb.bz m7.1.bz
  refine ok_mono (reachAll_ok m7.1 H7 m7.2.2.1 m7.2.2.2.1 (by
    have := m7.2.2.2.2
    rw [wz] at this
    have z : (0 : Int32).toNatClampNeg = 0 := rfl
    omega)) ?_
  rintro - s8 ⟨kb, k8, H8, hall⟩
  have enb8 : cN s8 = cN s := (kb.I _ (by decide) _).trans enb
  have Hy : ∀ y, 0 ≤ y → y < cN s8 → cSy s8 y ≠ 0 → cRe s8 y ≠ 0 := fun y y0 y1 q => by
    rw [enb8] at y1
    refine kb.2.2.2.2 _ ?_
    rw [mz y y0 y1]
    intro z
    apply q
    rw [show cSy s8 y = cSy s y from (kb.I _ (by decide) _).trans (bz.I _ (by decide) _)]
    exact z
  refine ok_mono (sweep_ok H8 hall) ?_
  rintro - t sw
  have kt : cMk s4 s8 := k5.trans (k6.trans (k7.trans k8))
  have rI : ∀ f i, f ≠ 18562 ∧ f ≠ 14219 → gI s8 f i = gI s f i := fun f i q => (kb.I f q i).trans (bz.I f q i)
  have rI2 : ∀ f j, f ≠ 18560 ∧ f ≠ 14211 ∧ f ≠ 18565 ∧ f ≠ 18564 ∧ f ≠ 18567 ∧ f ≠ 18950 ∧ f ≠ 18954 ∧ f ≠ 18562 ∧ f ≠ 14219 → gI t f j = gI s f j := fun f j q => (sw.I f j ⟨q.1, q.2.1, q.2.2.1, q.2.2.2.1, q.2.2.2.2.1, q.2.2.2.2.2.1, q.2.2.2.2.2.2.1⟩).trans (rI f j ⟨q.2.2.2.2.2.2.2.1, q.2.2.2.2.2.2.2.2⟩)
  have rA : ∀ a j k, a ≠ 113 ∧ a ≠ 114 ∧ a ≠ 117 ∧ a ≠ 127 ∧ a ≠ 119 → gA t a j k = gA s a j k := fun a j k q => (sw.A a j k ⟨q.1, q.2.1, q.2.2.1, q.2.2.2.1⟩).trans ((kb.A a q.2.2.2.2 j k).trans (bz.A a ⟨q.2.2.2.2, q.2.1⟩ j k))
  have rB : ∀ a j k, gB t a j k = gB s a j k := fun a j k => (sw.B a j k).trans ((kb.B a j k).trans (bz.B a j k))
  have lv8 : ∀ x u, cLv false s x u → cRe s8 x ≠ 0 → cLv false t x u := fun x u l m => by
    refine sw.lv ?_
    have := (cLv.bz (kb.bz)).2 (lvb.2 l)
    exact ⟨this.1, this.2.1, fun _ => m⟩
  have lvt : ∀ x u, cLv true s8 x u → cLv false t x u := fun x u l => sw.lv l
  have tyt : ∀ x, cTy t x = cTy s x ∨ cTy t x = 0 := fun x => by
    rw [sw.ty]
    by_cases q : (0 ≤ x ∧ x < cN s8) ∧ cRe s8 x = 0
    · rw [if_pos q]
      exact .inr rfl
    · rw [if_neg q]
      exact .inl (rI _ _ (by decide))
  have stay : ∀ x, cLv false s x 4 → cSy s x ≠ 0 → cLv false t x 4 ∧ cSy t x ≠ 0 := fun x l q => by
    refine ⟨lv8 x 4 l (Hy x l.1.1 (by rw [enb8]; exact l.1.2) ?_), ?_⟩
    · rw [show cSy s8 x = cSy s x from rI _ _ (by decide)]
      exact q
    · rw [show cSy t x = cSy s x from rI2 _ _ (by decide)]
      exact q
  refine ⟨sw.hi H8 hall Hy, ⟨?_, ?_, ⟨?_, ?_⟩, ⟨?_, ?_⟩, ⟨?_, ?_⟩, ?_, ?_⟩, rI2, fun f j q => (sw.L f j q).trans ((kb.L f j).trans (bz.L f j)), rA, rB, fun j q => ?_, tyt, fun x q => ?_, fun c => ?_, fun c p l => ?_, fun y => ?_⟩
  · rw [rI2 16394 0 (by decide)]
    exact lv8 _ _ R1 (kt.2.2.2.2 _ (k4.2.2.2.2 _ (k3.2.2.2.2 _ (v2 R1.1.1))))
  · have ecu' : mCur t = mCur s := rI2 _ _ (by decide)
    have slc : ∀ c, cMb s c → oSl t c = oSl s c := fun c m => by
      have e8 : oSl s8 c = oSl s c := rI _ _ (by decide)
      rcases sw.sl c with w | w
      · rw [w, e8]
      · have := allc c ((mbb c).2 m)
        rw [show oSl b c = oSl s c from bz.I _ (by decide) _] at this
        rw [e8] at w
        exact absurd w.2.1 (kt.2.2.2.2 _ this)
    refine ⟨by rw [ecu']; exact R2.1, ρ, hl.congr (fun c => ?_) (fun _ _ => rfl) (fun c _ => rI2 _ _ (by decide)) ecu'⟩
    unfold cMb pC
    rw [rI2 19071 c (by decide), rI2 18951 c (by decide), ecu']
    constructor
    · rintro ⟨a1, a2, a3⟩
      refine ⟨a1, ?_, a3⟩
      have e8 : oSl s8 c = oSl s c := rI _ _ (by decide)
      rcases sw.sl c with w | w
      · rw [w, e8] at a2
        exact a2
      · rw [w.1] at a2
        exact absurd a2 (by decide)
    · rintro ⟨a1, a2, a3⟩
      refine ⟨a1, ?_, a3⟩
      rw [slc c ⟨a1, a2, a3⟩]
      exact a2
  · rw [rI2 18050 0 (by decide)]
    exact R3.1
  · intro i a c
    rw [rI2 18050 0 (by decide)] at c
    have := (((v5 i a c).mk k6).mk k7).mk k8
    rw [bz.A 142 (by decide), bz.B 143] at this
    rw [rA 142 _ _ (by decide), rB]
    exact this.mono lvt
  · rw [rI2 17666 0 (by decide)]
    exact R4.1
  · intro i a c
    rw [rI2 17666 0 (by decide)] at c
    have := ((v6 i a c).mk k7).mk k8
    rw [bz.A 139 (by decide), bz.B 140] at this
    rw [rA 139 _ _ (by decide), rB]
    exact this.mono lvt
  · rw [rI2 16898 0 (by decide)]
    exact R5.1
  · intro i a c
    rw [rI2 16898 0 (by decide)] at c
    have := (v7 i a c).mk k8
    rw [bz.A 133 (by decide), bz.B 134] at this
    rw [rA 133 _ _ (by decide), rB]
    exact this.mono lvt
  · intro i a c
    rw [rA 115 _ _ (by decide)]
    exact stay _ (R6.1 i a c).1 (R6.1 i a c).2
  · intro i a c
    rw [rI2 12938 0 (by decide)] at c
    rw [rA 105 _ _ (by decide), rB]
    have w := R6.2 i a c
    refine ⟨w.1, fun q => ⟨(w.2 q).1, ?_⟩⟩
    exact stay _ (w.2 q).2.1 (w.2 q).2.2
  · rw [sw.tl j ⟨q.1, q.2.1, q.2.2.1⟩]
    show gA s8 114 0 j = gA s 114 0 j
    rw [kb.A 114 (by decide)]
    exact bz.2.2.2.2 j q.2.2.2
  · rcases sw.vr x with w | w
    · rw [w.1]
      exact rI _ _ (by decide)
    · refine absurd ?_ q
      exact (rI _ _ (by decide)).symm.trans w.2.1
  · rcases sw.sl c with w | w
    · rw [w]
      exact .inl (rI _ _ (by decide))
    · exact .inr w.1
  · have es : oSl t c = oSl s8 c := by
      rcases sw.sl c with w | w
      · exact w
      · rw [w.1] at l
        exact absurd l (by decide)
    have p8 : pC s8 c := by
      unfold pC at p ⊢
      rw [rI _ _ (by decide)]
      exact p
    have l8 : 0 ≤ oSl s8 c := by
      rw [← es]
      exact l
    have w1 := (sw.co c p8 l).1
    rw [es] at w1
    obtain ⟨v1, v2, v3⟩ := H8.2.2.2.2.1.1 c p8 l8
    have mx : cRe s8 (oSl s8 c) ≠ 0 := fun z => by
      rw [sw.ty, if_pos ⟨v1.1, z⟩] at w1
      exact absurd w1 (by decide)
    have px := (hall _ v1.1.1 v1.1.2 mx).2.2.2.1 v1.2.1
    refine ⟨(sw.no c l).trans (rI _ _ (by decide)), fun y q => ?_⟩
    have q8 : cLv false s8 y 8 := (cLv.bz kb.bz).2 (lvb.2 q.1)
    have k8 : cLk s8 y = c := (rI _ _ (by decide)).trans q.2
    have ly := sw.lv (px.2.2.2.2.2 y q8 (by rw [v2]; exact k8))
    refine ⟨⟨ly, ?_⟩, ?_⟩
    · rcases sw.vo y with w | w
      · rw [w]
        exact k8
      · rw [k8] at w
        exact absurd l (by clear H H8 Hb R1 R2 R3 R4 R5 R6 sw; grind)
    · rw [sw.nx y (by rw [q8.2.1]; decide)]
      exact rI _ _ (by decide)
  · have l8 : cLk s8 y = cLk s y := rI _ _ (by decide)
    rcases sw.vr y with w | w
    · exact .inl ⟨w.1.trans l8, w.2.1.trans (rI _ _ (by decide)), w.2.2.trans ((kb.L _ _).trans (bz.L _ _))⟩
    · refine .inr ⟨w.2.2.2.1, by rw [← l8]; exact w.2.2.1, ?_, ?_⟩
      · rw [w.2.2.2.2.2.1, l8, show cPl s8 y = cPl s y from rI _ _ (by decide)]
        exact (kb.A 149 (by decide) _ _).trans (bz.A 149 (by decide) _ _)
      · rw [w.2.2.2.2.2.2, l8, show cPl s8 y = cPl s y from rI _ _ (by decide)]
        exact (kb.B 150 _ _).trans (bz.B 150 _ _)
