/-! The class: print. -/
/-- only the output has changed -/
def ouQ (s t : S1) : Prop := (∀ f j, f ≠ 16641 → gI t f j = gI s f j) ∧ (∀ f j, gL t f j = gL s f j) ∧ (∀ a j k, a ≠ 131 → gA t a j k = gA s a j k) ∧ ∀ a j k, gB t a j k = gB s a j k
def outR (s : S1) : Prop := 0 ≤ (gI s 16641 0).toInt ∧ (gI s 16641 0).toInt ≤ 20000
theorem ouQ.trans {s t u : S1} (a : ouQ s t) (b : ouQ t u) : ouQ s u := ⟨fun f j q => (b.1 f j q).trans (a.1 f j q), fun f j => (b.2.1 f j).trans (a.2.1 f j), fun f j k q => (b.2.2.1 f j k q).trans (a.2.2.1 f j k q), fun f j k => (b.2.2.2 f j k).trans (a.2.2.2 f j k)⟩
theorem ouQ.w {s t : S1} {n : Nat × Nat} {τ : Bool} (h : ouQ s t) (W : cW s n) (F : qFr τ s) : cW t n ∧ qFr τ t ∧ cLv false t = cLv false s := by
  obtain ⟨I, L, A, B⟩ := h
  have lv' : cLv false t = cLv false s := by
    funext y u
    rw [cLv_f, cLv_f, show cN t = cN s from I _ _ (by decide), show cTy t y = cTy s y from I _ _ (by decide)]
  have cur : mCur t = mCur s := I _ _ (by decide)
  have Hi : cHI t := W.hi.sm ⟨fun f j q _ _ => I f j (by unfold hpI at q; omega), fun f j _ _ _ => L f j, fun a j k q _ => A a j k (by unfold hpA at q; omega), fun a j k _ _ => B a j k⟩
  have pk : cPk s t := ⟨fun f j q => I f j (by omega), fun a j k q => A a j k (by omega)⟩
  have rn : cRn t := by
    obtain ⟨m0, ρ, hl⟩ := W.rt.2.1
    refine ⟨by rw [cur]; exact m0, ρ, hl.congr (fun d => ?_) (fun _ _ => rfl) (fun d _ => I _ _ (by decide)) cur⟩
    unfold cMb pC
    rw [I 19071 d (by decide), show oSl t d = oSl s d from I _ _ (by decide), cur, I 18951 d (by decide)]
  have kp : cKp s t := by
    refine ⟨pk, cur, fun c a => .inl ⟨⟨⟨a.1.1, (I 19071 c (by decide)).symm.trans a.1.2⟩, by rw [← show oSl t c = oSl s c from I _ _ (by decide)]; exact a.2⟩, fun f q => I f c (by omega), fun f j q _ _ => I f _ (by omega), fun j _ _ _ l => ⟨by rw [lv']; exact l, I _ _ (by decide)⟩, fun y o => ?_⟩⟩
    unfold cOp at o ⊢
    rw [lv', show cLk t y = cLk s y from I _ _ (by decide)] at o
    exact ⟨o, I _ _ (by decide)⟩
  refine ⟨⟨Hi, W.rt.up2 (fun y u _ l => by rw [lv']; exact l) rn (fun f q => I f 0 (by omega)) (fun a j k q => A a j k (by unfold rtA at q; omega)) (fun a j k _ => B a j k) (fun y _ => I _ _ (by decide)), (I _ _ (by decide)).trans W.ld, W.sf.congr (fun f j q => I f j (by unfold sfI at q; omega)), cRo.fi (x := 0) W.ro (fun f j q => I f j (by omega)) (fun j _ => A _ _ _ (by decide)), pk.pg W.pg, fun x l => ?_⟩, kp.fr F W.dd, lv'⟩
  rw [show cLk t x = cLk s x from I _ _ (by decide)]
  unfold nPr
  rw [I 12937 _ (by decide)]
  rw [lv'] at l
  exact W.kl x l
theorem ouQ.st3 {s t : S1} {n : Nat × Nat} (h : ouQ s t) (q : St3 s n) : St3 t n := by
  obtain ⟨W, F, h1, t3, row⟩ := q
  obtain ⟨Wt, Ft, lv⟩ := h.w W F
  refine ⟨Wt, Ft, ?_, (h.1 _ _ (by decide)).trans t3, ?_⟩
  · rw [show mCur t = mCur s from h.1 _ _ (by decide), h.1 _ _ (by decide)]
    exact h1
  · rw [lv]
    exact row.up (fun _ _ q => q) (h.1 _ _ (by decide)) (fun j => h.2.2.1 _ _ _ (by decide)) (fun j => h.2.2.2 _ _ _)
def prQ (s : S1) (n : Nat × Nat) (t : S1) : Prop := St3 t n ∧ outR t ∧ rwS t 132 = rwS s 132
theorem printByte_ok {s : S1} {n : Nat × Nat} (h : St3 s n) (o : outR s) (b : Int32) : ok (M_Bu_printByte b) s (fun _ t => prQ s n t) := by
  have e0 : (0 : Int32).toInt = 0 := rfl
  have e1 : (1 : Int32).toInt = 1 := rfl
  have e2 : (20000 : Int32).toInt = 20000 := rfl
  obtain ⟨o1, o2⟩ := o
  simp only [M_Bu_printByte, ok_B, ok_C, ok_R, ok_L, ok_K, ok_GI, ok_GL, ok_PI, ok_PL, ok_AI, ok_AL, ok_SI, ok_SL, ok_CI, cmp_lt, cmp_le, cmp_gt, cmp_ge, cmp_eq, nar0, nar1, Sum.elim_inl, Sum.elim_inr, ok_PzT, ok_PzC, ok_PzP, ok_PrC, ok_PrP, ok_PrF, ok_PrN, ok_Ln, ok_CL, ok_Nw, ok_S, ok_Ks, ok_Nz]
  refine ⟨fun _ => ⟨h, ⟨o1, o2⟩, rfl⟩, fun c => ⟨⟨by rw [i32_le]; omega, by rw [i32_lt]; rw [i32_le] at c; omega⟩, ?_⟩⟩
  rw [i32_le] at c
  have e : (gI s 16641 0 + 1).toInt = (gI s 16641 0).toInt + 1 := by rw [ktI_add] <;> omega
  generalize b.toInt8.toInt32.toInt8.toInt32 = x
  have q : ouQ s (sI (sA s 131 0 (gI s 16641 0) x) 16641 0 (gI (sA s 131 0 (gI s 16641 0) x) 16641 0 + 1)) := by
    refine ⟨fun f j y => ?_, fun f j => rfl, fun a j k y => ?_, fun a j k => rfl⟩
    · rw [gI_sI, if_neg (fun z => y z.1)]
      rfl
    · rw [gA_sI, gA_sA, if_neg (fun z => y z.1)]
  refine ⟨q.st3 h, ?_, q.1 _ _ (by decide)⟩
  unfold outR
  rw [gI_sI, if_pos ⟨rfl, rfl⟩]
  change 0 ≤ (gI s 16641 0 + 1).toInt ∧ (gI s 16641 0 + 1).toInt ≤ 20000
  rw [e]
  omega
theorem printBytes_ok {s : S1} {n : Nat × Nat} {r : Nat} {i k : Int32} (h : St3 s n) (o : outR s) (k0 : 0 ≤ k.toInt) (k1 : k.toInt ≤ lnS s r i) (k2 : lnS s r i ≤ 400000) : ok (M_Bu_printBytes r i k) s (fun _ t => prQ s n t) := by
  have e0 : (0 : Int32).toInt = 0 := rfl
  have e2 : (20000 : Int32).toInt = 20000 := rfl
  obtain ⟨o1, o2⟩ := o
  have el := len_toInt k2
  have ed : (20000 - gI s 16641 0).toInt = 20000 - (gI s 16641 0).toInt := by rw [ktI_sub] <;> omega
  simp only [M_Bu_printBytes, ok_B, ok_C, ok_R, ok_L, ok_K, ok_GI, ok_GL, ok_PI, ok_PL, ok_AI, ok_AL, ok_SI, ok_SL, ok_CI, cmp_lt, cmp_le, cmp_gt, cmp_ge, cmp_eq, nar0, nar1, Sum.elim_inl, Sum.elim_inr, ok_PzT, ok_PzC, ok_PzP, ok_PrC, ok_PrP, ok_PrF, ok_PrN, ok_Ln, ok_CL, ok_Nw, ok_S, ok_Ks, ok_Nz]
  refine ok_mono (kmin_ok _ _ s) ?_
  rintro v u ⟨eu, v0, v1, v2⟩
  rw [eu]
  rw [ed] at v2
  have vn : 0 ≤ v.toInt := by
    rcases v0 with z | z
    · rw [z]
      exact k0
    · rw [z, ed]
      omega
  have z1 : (Int32.ofNat (lnS s r i) - 0).toInt = lnS s r i := by rw [ktI_sub, el] <;> omega
  refine ⟨⟨by decide, by rw [i32_le]; omega, by rw [i32_le]; omega, by rw [i32_le]; omega, by rw [i32_le]; omega, by rw [i32_le]; omega, by rw [i32_le]; omega⟩, ?_⟩
  generalize cpI s r i 131 0 0 (gI s 16641 0) v = q
  have e : (gI s 16641 0 + v).toInt = (gI s 16641 0).toInt + v.toInt := by rw [ktI_add] <;> omega
  have qq : ouQ s (sI (sAf s 131 0 q) 16641 0 (gI (sAf s 131 0 q) 16641 0 + v)) := by
    refine ⟨fun f j y => ?_, fun f j => rfl, fun a j k y => ?_, fun a j k => rfl⟩
    · rw [gI_sI, if_neg (fun z => y z.1)]
      rfl
    · rw [gA_sI, gA_sAf, if_neg (fun z => y z.1)]
  refine ⟨qq.st3 h, ?_, qq.1 _ _ (by decide)⟩
  unfold outR
  rw [gI_sI, if_pos ⟨rfl, rfl⟩]
  change 0 ≤ (gI s 16641 0 + v).toInt ∧ (gI s 16641 0 + v).toInt ≤ 20000
  rw [e]
  omega
theorem print_ok {s : S1} {n : Nat × Nat} (h : Pf s n) (o : outR s) : ok (M_Bu_print n) s (fun r t => Pq t r.2 ∧ outR t) := by
  have e0 : (0 : Int32).toInt = 0 := rfl
  have e1 : (1 : Int32).toInt = 1 := rfl
  have e5 : (512 : Int32).toInt = 512 := rfl
  have an := h.2
  simp only [M_Bu_print, ok_B, ok_C, ok_R, ok_L, ok_K, ok_GI, ok_GL, ok_PI, ok_PL, ok_AI, ok_AL, ok_SI, ok_SL, ok_CI, cmp_lt, cmp_le, cmp_gt, cmp_ge, cmp_eq, nar0, nar1, Sum.elim_inl, Sum.elim_inr, ok_PzT, ok_PzC, ok_PzP, ok_PrC, ok_PrP, ok_PrF, ok_PrN, ok_Ln, ok_CL, ok_Nw, ok_S, ok_Ks, ok_Nz]
  refine ok_mono (P := fun m t => prQ s m t) ?_ ?_
  · refine ok_W (fun y t => prQ s y.2 t ∧ 0 ≤ y.1.toInt ∧ y.1.toInt ≤ 512) (fun y _ => (512 - y.1.toInt).toNat) ?_ (0, n) s ⟨⟨h.1, o, rfl⟩, (by show 0 ≤ (0 : Int32).toInt; decide), (by show (0 : Int32).toInt ≤ 512; decide)⟩
    rintro ⟨i, m⟩ t ⟨pq, i0, i1⟩
    dsimp only at pq i0 i1
    have j23 : ∀ u, prQ s m u → i.toInt < (rwS s 132).toInt → ok (M_Bu_print_j23 i m) u (fun y t => Sum.elim (fun y => (prQ s y.2 t ∧ 0 ≤ y.1.toInt ∧ y.1.toInt ≤ 512) ∧ (512 - y.1.toInt).toNat < (512 - i.toInt).toNat) (fun m => prQ s m t) y) := fun u ⟨q3, ou, es⟩ il => by
      have row := q3.1.args
      have ir : 0 ≤ i ∧ i < 512 := ⟨by rw [i32_le]; omega, by rw [i32_lt]; omega⟩
      have kv := row.2 i ir.1 (by show i < rwS u 132; rw [es, i32_lt]; exact il)
      have ei : (i + 1).toInt = i.toInt + 1 := by rw [ktI_add] <;> omega
      simp only [M_Bu_print_j23, M_Bu_print_j108, ok_B, ok_C, ok_R, ok_L, ok_K, ok_GI, ok_GL, ok_PI, ok_PL, ok_AI, ok_AL, ok_SI, ok_SL, ok_CI, cmp_lt, cmp_le, cmp_gt, cmp_ge, cmp_eq, nar0, nar1, Sum.elim_inl, Sum.elim_inr, ok_PzT, ok_PzC, ok_PzP, ok_PrC, ok_PrP, ok_PrF, ok_PrN, ok_Ln, ok_CL, ok_Nw, ok_S, ok_Ks, ok_Nz]
      change cV (cLv false u) (gA u 133 0 i) (gB u 134 0 i) at kv
      refine ⟨ir, fun k4 => ⟨ir, ?_⟩, fun _ => ⟨ir, ir, ?_⟩⟩
      · rw [k4] at kv
        have l4 := kv.at4
        obtain ⟨p1, p2, p3, p4⟩ := q3.1.len l4
        refine ⟨p1, p2, ?_⟩
        refine ok_mono (printBytes_ok q3 ou (by rw [p4]; omega) (by rw [p4]; exact Int.le_refl _) p3) ?_
        rintro - v ⟨a1, a2, a3⟩
        exact ⟨⟨⟨a1, a2, a3.trans es⟩, by omega, by omega⟩, by omega⟩
      · refine ok_mono (describe_ok q3.1 kv) ?_
        rintro x v wt
        have q4 := wt.st3 q3
        have ov : outR v := by
          unfold outR
          rw [wt.1.1 _ _ (by unfold wuX; decide)]
          exact ou
        have wl := wt.2.2.1.wl
        obtain ⟨-, l2⟩ := wk_ln v (by omega)
        have wi := wt.2.1
        have wb := wt.2.2.2
        have := wi.2 (by omega)
        refine ok_mono (printBytes_ok q4 ov wi.1 (by omega) (by omega)) ?_
        rintro - w ⟨a1, a2, a3⟩
        refine ⟨⟨⟨a1, a2, (a3.trans (wt.1.1 _ _ (by unfold wuX; decide))).trans es⟩, (by first | omega | (dsimp only; omega)), (by first | omega | (dsimp only; omega))⟩, (by first | omega | (dsimp only; omega))⟩
    simp only [M_Bu_print_L2, ok_B, ok_C, ok_R, ok_L, ok_K, ok_GI, ok_GL, ok_PI, ok_PL, ok_AI, ok_AL, ok_SI, ok_SL, ok_CI, cmp_lt, cmp_le, cmp_gt, cmp_ge, cmp_eq, nar0, nar1, Sum.elim_inl, Sum.elim_inr, ok_PzT, ok_PzC, ok_PzP, ok_PrC, ok_PrP, ok_PrF, ok_PrN, ok_Ln, ok_CL, ok_Nw, ok_S, ok_Ks, ok_Nz]
    rw [show gI t 16898 0 = rwS s 132 from pq.2.2]
    refine ⟨fun _ => pq, fun c => ?_⟩
    rw [i32_le] at c
    refine ⟨fun _ => j23 t pq (by omega), fun _ => ?_⟩
    refine ok_mono (printByte_ok pq.1 pq.2.1 9) ?_
    rintro - u ⟨a1, a2, a3⟩
    exact j23 u ⟨a1, a2, a3.trans pq.2.2⟩ (by omega)
  · rintro m t ⟨a1, a2, a3⟩
    refine ok_mono (printByte_ok a1 a2 10) ?_
    rintro - u ⟨b1, b2, -⟩
    exact ⟨.inl b1, b2⟩
