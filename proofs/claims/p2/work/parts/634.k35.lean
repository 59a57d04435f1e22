/-! The class: makeRoom, write, border, findEvent. -/
/-- tables are written, then a collection may come -/
def cDd (x : Int32) (s t : S1) : Prop := cTw x s t ∧ ∀ k v, k ≠ 0 → hsE s x k v → hsE t x k v
theorem cDd.refl (x : Int32) (s : S1) : cDd x s s := ⟨cTw.refl x s, fun _ _ _ h => h⟩
def cMh (x : Int32) (s s0 : S1) : Prop := ∃ s1, cDd x s s1 ∧ cMg s1 s0
theorem cMh.refl (x : Int32) (s : S1) : cMh x s s := ⟨s, cDd.refl x s, .inl rfl⟩
theorem ktI_two {a : Int32} (h : 0 ≤ a.toInt ∧ a.toInt ≤ 1000000) : (a * 2).toInt = a.toInt * 2 := by
  rw [Int32.toInt_mul, show (2 : Int32).toInt = 2 from rfl]
  exact Int.bmod_eq_of_le (by omega) (by omega)
theorem rp_eq {w t : S1} (h1 : t.1 = w.1) (h2 : t.2.1 = w.2.1) (h4 : t.2.2.2 = w.2.2.2) (h3 : ∀ a j k, ¬ (a = 114 ∧ j = 0) → gA t a j k = gA w a j k) : rp w t = w := by
  have e : (rp w t).2.2.1 = w.2.2.1 := by
    funext a j k
    by_cases q : a = 114 ∧ j = 0
    · obtain ⟨rfl, rfl⟩ := q
      exact rp_T w t k
    · show (if a = 114 ∧ j = 0 then (fun j => gA w 114 0 j) else t.2.2.1 a j) k = _
      rw [if_neg q]
      exact h3 a j k q
  have a1 : (rp w t).1 = w.1 := h1
  have a2 : (rp w t).2.1 = w.2.1 := h2
  have a4 : (rp w t).2.2.2 = w.2.2.2 := h4
  exact Prod.ext a1 (Prod.ext a2 (Prod.ext e a4))
def m8Q (s : S1) (n e : Nat × Nat) (x r : Int32) (t : S1) : Prop := cHR t ∧ cHx s t ∧ cRo t n e ∧ ((r = 0 ∧ (cE t x).toInt < (cR t x).toInt) ∨ r = 10 ∨ r = 11)
theorem mr108_ok {s : S1} {n e : Nat × Nat} {x room : Int32} (H : cHR s) (R : cRo s n e) (hx : cLv false s x 5) (h0 : 0 < room.toInt ∧ room.toInt ≤ 80000) (hlt : (cR s x).toInt < room.toInt) (h13 : (cTl s 13).toInt + room.toInt ≤ 300000) :
    ok (M_Ta_makeRoom_j108 x x room) s (m8Q s n e x) := by
  have e4 : (40000 : Int32).toInt = 40000 := rfl
  obtain ⟨⟨a1, a2, a3, a4, a5⟩, a6, a7⟩ := H.1.tI hx
  have t6 := H.1.2.2.2.2.2.tl
  have al := R.1.2.1
  simp only [M_Ta_makeRoom_j108, ok_B, ok_C, ok_R, ok_L, ok_K, ok_GI, ok_GL, ok_PI, ok_PL, ok_AI, ok_AL, ok_SI, ok_SL, ok_CI, cmp_lt, cmp_le, cmp_gt, cmp_ge, cmp_eq, nar0, nar1, Sum.elim_inl, Sum.elim_inr, ok_PzT, ok_PzC, ok_PzP, ok_PrC, ok_PrP, ok_PrF, ok_PrN, ok_Ln, ok_CL, ok_Nw, ok_S, ok_Ks, ok_Nz]
  simp only [gI_sI, gI_sL, gI_sA, gI_sB, gI_sAf, gI_sBf, gL_sI, gL_sL, gL_sA, gL_sB, gL_sAf, gL_sBf, gA_sI, gA_sL, gA_sA, gA_sB, gA_sAf, gA_sBf, gB_sI, gB_sL, gB_sA, gB_sB, gB_sAf, gB_sBf, Nat.reduceEqDiff, Nat.reduceMul, Nat.reduceAdd, false_and, true_and, and_true, and_false, if_true, if_false]
  refine ⟨by decide, fun c => ?_, fun _ => ⟨H, cHx.refl s, R, .inr (.inl rfl)⟩⟩
  rw [i32_le, ktI_add (by show -2147483648 ≤ (cTl s 6).toInt + room.toInt ∧ (cTl s 6).toInt + room.toInt < 2147483648; omega)] at c
  change (cTl s 6).toInt + room.toInt ≤ _ at c
  refine ⟨by decide, by decide, by decide, by decide, by decide, by decide, ?_⟩
  have e1 : (room - cR s x).toInt = room.toInt - (cR s x).toInt := by rw [ktI_sub] <;> omega
  have v6 : (cTl s 6 + (room - cR s x)).toInt = (cTl s 6).toInt + room.toInt - (cR s x).toInt := by rw [ktI_add] <;> omega
  have v13 : (cTl s 13 + room).toInt = (cTl s 13).toInt + room.toInt := by rw [ktI_add] <;> omega
  have key : ∀ T : S1, T.1 = s.1 → T.2.1 = s.2.1 → T.2.2.2 = s.2.2.2 → (∀ a j k, gA T a j k = if a = 114 ∧ j = 0 ∧ k = 13 then cTl s 13 + room else if a = 114 ∧ j = 0 ∧ k = 7 then cTl s 7 + room else if a = 114 ∧ j = 0 ∧ k = 6 then cTl s 6 + (room - cR s x) else gA s a j k) → ok (M_Ta_moveTo x room) T (fun _ t => m8Q s n e x 0 t) := fun T h1 h2 h4 h3 => by
    have er : rp s T = s := rp_eq h1 h2 h4 (fun a j k q => by
      rw [h3, if_neg (fun z => q ⟨z.1, z.2.1⟩), if_neg (fun z => q ⟨z.1, z.2.1⟩), if_neg (fun z => q ⟨z.1, z.2.1⟩)])
    have gI1 : ∀ f j, gI T f j = gI s f j := fun f j => congrFun (congrFun h1 f) j
    have tl : ∀ k, cTl T k = if k = 13 then cTl s 13 + room else if k = 7 then cTl s 7 + room else if k = 6 then cTl s 6 + (room - cR s x) else cTl s k := fun k => (h3 114 0 k).trans (by simp)
    have hxT : cLv false T x 5 := by
      rw [cLv_f, show cN T = cN s from gI1 _ _, show cTy T x = cTy s x from gI1 _ _]
      exact (cLv_f).1 hx
    have eR : cR T x = cR s x := gI1 _ _
    refine ok_mono (moveTo_ok (w := s) (by rw [er]; exact H.1) hxT ⟨h0.1, by omega⟩ (by rw [eR]; exact hlt) (by omega) ?_ (fun j q => ?_)) ?_
    · rw [tl, if_neg (by decide), if_neg (by decide), if_pos rfl, v6, eR]
    · rw [tl, if_neg q.2.2, if_neg q.2.1, if_neg q.1]
    · rintro - t ⟨Ht, kt, tt, tR, tE, -⟩
      rw [er] at kt
      have l13 : (cTl t 13).toInt = (cTl s 13).toInt + room.toInt := by
        rw [tt, tl, if_pos rfl, v13]
      refine ⟨kt.hr H Ht, kt, kt.ro R (by omega) (by omega), .inl ⟨rfl, ?_⟩⟩
      rw [tR]
      rw [eR] at tE
      omega
  exact key _ rfl rfl rfl (fun a j k => by simp only [gI_sI, gI_sL, gI_sA, gI_sB, gI_sAf, gI_sBf, gL_sI, gL_sL, gL_sA, gL_sB, gL_sAf, gL_sBf, gA_sI, gA_sL, gA_sA, gA_sB, gA_sAf, gA_sBf, gB_sI, gB_sL, gB_sA, gB_sB, gB_sAf, gB_sBf, Nat.reduceEqDiff, Nat.reduceMul, Nat.reduceAdd, false_and, true_and, and_true, and_false, if_true, if_false, tdf])
def mrQ (s : S1) (n e : Nat × Nat) (x r : Int32) (t : S1) : Prop := (∃ s0, cMh x s s0 ∧ cHR s0 ∧ cHx s0 t) ∧ cHR t ∧ cRo t n e ∧ ((r = 0 ∧ (cE t x).toInt < (cR t x).toInt) ∨ r = 10 ∨ r = 11)
theorem mr62_ok {s s1 : S1} {n e : Nat × Nat} {x room : Int32} (H : cHR s1) (R : cRo s1 n e) (k1 : cDd x s s1) (hx : ∀ s0, cMh x s s0 → cHR s0 → cLv false s0 x 5) (h0 : 0 < room.toInt ∧ room.toInt ≤ 80000) (hlt : (cR s1 x).toInt < room.toInt) :
    ok (M_Ta_makeRoom_j62 x x room) s1 (mrQ s n e x) := by
  have e3 : (300000 : Int32).toInt = 300000 := rfl
  have al := R.1.2.1
  have r0 : mrQ s n e x 11 s1 := ⟨⟨s1, ⟨s1, k1, .inl rfl⟩, H, cHx.refl s1⟩, H, R, .inr (.inr rfl)⟩
  have hx1 := hx s1 ⟨s1, k1, .inl rfl⟩ H
  simp only [M_Ta_makeRoom_j62, ok_B, ok_C, ok_R, ok_L, ok_K, ok_GI, ok_GL, ok_PI, ok_PL, ok_AI, ok_AL, ok_SI, ok_SL, ok_CI, cmp_lt, cmp_le, cmp_gt, cmp_ge, cmp_eq, nar0, nar1, Sum.elim_inl, Sum.elim_inr, ok_PzT, ok_PzC, ok_PzP, ok_PrC, ok_PrP, ok_PrF, ok_PrN, ok_Ln, ok_CL, ok_Nw, ok_S, ok_Ks, ok_Nz]
  refine ⟨by decide, fun c => ⟨by decide, fun _ => ?_, fun _ => ⟨fun l => ?_, fun _ => ?_⟩⟩, fun _ => r0⟩
  all_goals
    rw [i32_le, ktI_add (by show -2147483648 ≤ (cTl s1 13).toInt + room.toInt ∧ (cTl s1 13).toInt + room.toInt < 2147483648; omega)] at c
    change (cTl s1 13).toInt + room.toInt ≤ _ at c
  · refine ok_mono (mr108_ok H R hx1 h0 hlt (by omega)) ?_
    rintro r t ⟨q1, q2, q3, q4⟩
    exact ⟨⟨s1, ⟨s1, k1, .inl rfl⟩, H, q2⟩, q1, q3, q4⟩
  · refine ok_mono (clean_ok H.1 (H.2 l)) ?_
    rintro - s2 ⟨H2, Rt2, gc⟩
    have mg : cMg s1 s2 := .inr ⟨l, gc⟩
    have HR2 : cHR s2 := ⟨H2, fun _ => Rt2⟩
    have mh : cMh x s s2 := ⟨s1, k1, mg⟩
    have eR : cR s2 x = cR s1 x := gc.1 _ _ (by decide)
    refine ok_mono (mr108_ok HR2 (R.gc gc) (hx s2 mh HR2) h0 (by rw [eR]; exact hlt) ?_) ?_
    · rw [show cTl s2 13 = cTl s1 13 from gc.2.2.2.2.1 13 (by decide)]
      omega
    · rintro r t ⟨q1, q2, q3, q4⟩
      exact ⟨⟨s2, mh, HR2, q2⟩, q1, q3, q4⟩
  · refine ok_mono (mr108_ok H R hx1 h0 hlt (by omega)) ?_
    rintro r t ⟨q1, q2, q3, q4⟩
    exact ⟨⟨s1, ⟨s1, k1, .inl rfl⟩, H, q2⟩, q1, q3, q4⟩
theorem makeRoom_ok {s : S1} {n e : Nat × Nat} {x : Int32} (H : cHR s) (R : cRo s n e) (hx : ∀ s0, cMh x s s0 → cHR s0 → cLv false s0 x 5) : ok (M_Ta_makeRoom x) s (mrQ s n e x) := by
  have e0 : (0 : Int32).toInt = 0 := rfl
  have e4 : (4 : Int32).toInt = 4 := rfl
  have hx0 := hx s (cMh.refl x s) H
  simp only [M_Ta_makeRoom, ok_B, ok_C, ok_R, ok_L, ok_K, ok_GI, ok_GL, ok_PI, ok_PL, ok_AI, ok_AL, ok_SI, ok_SL, ok_CI, cmp_lt, cmp_le, cmp_gt, cmp_ge, cmp_eq, nar0, nar1, Sum.elim_inl, Sum.elim_inr, ok_PzT, ok_PzC, ok_PzP, ok_PrC, ok_PrP, ok_PrF, ok_PrN, ok_Ln, ok_CL, ok_Nw, ok_S, ok_Ks, ok_Nz]
  refine ⟨H.1.1.2 x hx0.1.1 hx0.1.2, ?_⟩
  refine ok_mono (dropDead_ok H.1 hx0) ?_
  rintro - s1 ⟨H1, tw, -, lve⟩
  have k1 := tw.hx
  have d1 : cDd x s s1 := ⟨tw, lve⟩
  have HR1 := k1.hr H H1
  have t13 : cTl s1 13 = cTl s 13 := tw.2.2.1 _ _ _ (fun z => absurd z (by decide))
  have R1 : cRo s1 n e := k1.ro R (by rw [t13]; exact Int.le_refl _) (by rw [t13]; exact R.1.2.1.2)
  have hx1 : cLv false s1 x 5 := k1.lv.2 hx0
  obtain ⟨⟨a1, a2, a3, a4, a5⟩, a6, a7⟩ := H1.tI hx1
  have two : (cR s1 x * 2).toInt = (cR s1 x).toInt * 2 := ktI_two ⟨by omega, by omega⟩
  have twE : (cE s1 x * 2).toInt = (cE s1 x).toInt * 2 := ktI_two ⟨by omega, by omega⟩
  have j37 : ok (M_Ta_makeRoom_j37 x x) s1 (mrQ s n e x) := by
    simp only [M_Ta_makeRoom_j37, ok_B, ok_C, ok_R, ok_L, ok_K, ok_GI, ok_GL, ok_PI, ok_PL, ok_AI, ok_AL, ok_SI, ok_SL, ok_CI, cmp_lt, cmp_le, cmp_gt, cmp_ge, cmp_eq, nar0, nar1, Sum.elim_inl, Sum.elim_inr, ok_PzT, ok_PzC, ok_PzP, ok_PrC, ok_PrP, ok_PrF, ok_PrN, ok_Ln, ok_CL, ok_Nw, ok_S, ok_Ks, ok_Nz]
    refine ⟨fun c => ?_, fun c => ?_⟩
    · have : (cR s1 x).toInt = 0 := by
        rw [show cR s1 x = 0 from c]
        rfl
      exact mr62_ok HR1 R1 d1 hx ⟨by decide, by decide⟩ (by omega)
    · have : (cR s1 x).toInt ≠ 0 := fun z => c (toInt_inj z)
      refine mr62_ok HR1 R1 d1 hx ⟨?_, ?_⟩ ?_
      · show 0 < (cR s1 x * 2).toInt
        omega
      · show (cR s1 x * 2).toInt ≤ _
        omega
      · show _ < (cR s1 x * 2).toInt
        omega
  refine ⟨fun _ => j37, fun c => ⟨fun _ => j37, fun d => ⟨⟨s1, ⟨s1, d1, .inl rfl⟩, HR1, cHx.refl s1⟩, HR1, R1, .inl ⟨rfl, ?_⟩⟩⟩⟩
  rw [i32_le] at c
  rw [i32_lt] at d
  change ¬ (cR s1 x).toInt < (cE s1 x * 2).toInt at d
  change ¬ (cR s1 x).toInt ≤ _ at c
  omega
def wrQ (s : S1) (n e : Nat × Nat) (r : Int32) (t : S1) : Prop := (∃ x s0, cMh x s s0 ∧ cHR s0 ∧ cHx s0 t) ∧ cHR t ∧ cRo t n e ∧ (r = 0 ∨ r = 6 ∨ r = 10 ∨ r = 11)
theorem vw_fin {s T : S1} {x i k : Int32} {v : Int64} (H : cHI s) (hx : cLv false s x 5) (i0 : 0 ≤ i) (i1 : i < cE s x) (hv : cV (cLv false s) k v) (TI : ∀ f j, f ≠ 18575 → gI T f j = gI s f j) (TL : ∀ f j, gL T f j = gL s f j)
    (TA : ∀ a j p, gA T a j p = if a = 123 ∧ j = 0 ∧ p = cS0 s x + i then k else gA s a j p) (TB : ∀ a j p, gB T a j p = if a = 124 ∧ j = 0 ∧ p = cS0 s x + i then v else gB s a j p) : cHI T ∧ cTw x s T := by
  obtain ⟨⟨a1, a2, a3, a4, a5⟩, a6, a7⟩ := H.tI hx
  have lt : ∀ i, i < cE s x → i < cR s x := fun i a => by
    rw [i32_lt] at a ⊢
    omega
  have ii := cIn.add H hx i0 (lt i i1)
  have tw : cTw x s T := by
    refine ⟨fun f j p _ => TI f j p, TL, fun a j p q => ?_, fun a j p q => ?_⟩
    · rw [TA, if_neg (fun z => q (by rw [z.1]; decide) ⟨z.2.1, by rw [z.2.2]; exact ii.1⟩)]
    · rw [TB, if_neg (fun z => q (by rw [z.1]; decide) ⟨z.2.1, by rw [z.2.2]; exact ii.1⟩)]
  have hk := tw.hx
  obtain ⟨b1, b2, b3⟩ := H.tbv hx
  have eE : cE T x = cE s x := TI _ _ (by decide)
  refine ⟨H.tw hx tw ?_, tw⟩
  unfold tbl cTs
  rw [(tw.s0 x).1, (tw.s0 x).2.1, (tw.s0 x).2.2, eE, hk.lv', show cTy T x = cTy s x from TI _ _ (by decide), show cTop T = cTop s from TI _ _ (by decide)]
  have oth : ∀ a p, a ≠ 123 → gA T a 0 p = gA s a 0 p := fun a p q => by rw [TA, if_neg (fun z => q z.1)]
  refine ⟨b1, fun j j0 j1 => ?_, fun ty => ⟨(b3 ty).1, fun j j0 j1 => ?_, fun j j0 j1 => ?_⟩⟩
  · have w := b2 j j0 j1
    rw [show cKk T (cS0 s x + j) = cKk s (cS0 s x + j) from oth _ _ (by decide), show cKv T (cS0 s x + j) = cKv s (cS0 s x + j) from (TB _ _ _).trans (if_neg (fun z => absurd z.1 (by decide)))]
    refine ⟨w.1, ?_⟩
    by_cases q : cS0 s x + j = cS0 s x + i
    · rw [show cVk T (cS0 s x + j) = k from (TA _ _ _).trans (if_pos ⟨rfl, rfl, q⟩), show cVv T (cS0 s x + j) = v from (TB _ _ _).trans (if_pos ⟨rfl, rfl, q⟩)]
      exact hv
    · rw [show cVk T (cS0 s x + j) = cVk s (cS0 s x + j) from (TA _ _ _).trans (if_neg (fun z => q z.2.2)), show cVv T (cS0 s x + j) = cVv s (cS0 s x + j) from (TB _ _ _).trans (if_neg (fun z => q z.2.2))]
      exact w.2
  · rw [show cHd T (cS0 s x + j) = cHd s (cS0 s x + j) from oth _ _ (by decide)]
    exact (b3 ty).2.1 j j0 j1
  · rw [show cCh T (cS0 s x + j) = cCh s (cS0 s x + j) from oth _ _ (by decide)]
    exact (b3 ty).2.2 j j0 j1
theorem write_ok {s : S1} {n e : Nat × Nat} {x k k' : Int32} {v v' : Int64} (H : cHR s) (R : cRo s n e) (hx : ∀ s0, cMh x s s0 → cHR s0 → cLv false s0 x 5 ∧ cV (cLv false s0) k v ∧ cV (cLv false s0) k' v') : ok (M_Ta_write x k v k' v') s (wrQ s n e) := by
  have e0 : (0 : Int32).toInt = 0 := rfl
  have e5 : (50000 : Int32).toInt = 50000 := rfl
  obtain ⟨hx0, hk0, hv0⟩ := hx s (cMh.refl x s) H
  obtain ⟨⟨a1, a2, a3, a4, a5⟩, a6, a7⟩ := H.1.tI hx0
  have st : ∀ r, r = 0 ∨ r = 6 ∨ r = 10 ∨ r = 11 → wrQ s n e r s := fun r q => ⟨⟨x, s, cMh.refl x s, H, cHx.refl s⟩, H, R, q⟩
  simp only [M_Ta_write, ok_B, ok_C, ok_R, ok_L, ok_K, ok_GI, ok_GL, ok_PI, ok_PL, ok_AI, ok_AL, ok_SI, ok_SL, ok_CI, cmp_lt, cmp_le, cmp_gt, cmp_ge, cmp_eq, nar0, nar1, Sum.elim_inl, Sum.elim_inr, ok_PzT, ok_PzC, ok_PzP, ok_PrC, ok_PrP, ok_PrF, ok_PrN, ok_Ln, ok_CL, ok_Nw, ok_S, ok_Ks, ok_Nz, n8 hv0.kr]
  refine ⟨fun _ => st _ (by decide), fun _ => ⟨H.1.1.2 x hx0.1.1 hx0.1.2, ?_⟩⟩
  refine ok_mono (find_ok H.1 hx0 k v) ?_
  rintro p s2 ⟨es, hp⟩
  subst es
  have ap : ∀ s0 t, cMh x s2 s0 → cHR s0 → cHx s0 t → cHR t → cRo t n e → (cE t x).toInt < (cR t x).toInt → ok (M_Ta_append x k v k' v') t (fun _ u => wrQ s2 n e 0 u) := fun s0 t mh h0 kt Ht Rt lt => by
    obtain ⟨z1, z2, z3⟩ := hx s0 mh h0
    have lv := kt.lv'
    refine ok_mono (append_ok Ht.1 (kt.lv.2 z1) lt (by rw [lv]; exact z2) (by rw [lv]; exact z3)) ?_
    rintro - u ⟨Hu, tw, -⟩
    have t13 : cTl u 13 = cTl t 13 := tw.2.2.1 _ _ _ (fun z => absurd z (by decide))
    exact ⟨⟨x, s0, mh, h0, kt.trans tw.hx⟩, tw.hx.hr Ht Hu, tw.hx.ro Rt (by rw [t13]; exact Int.le_refl _) (by rw [t13]; exact Rt.1.2.1.2), .inl rfl⟩
  refine ⟨fun c => ⟨fun _ => st _ (by decide), fun _ => ⟨fun q => ?_, fun q => ?_⟩⟩, fun c => ?_⟩
  · refine ok_mono (makeRoom_ok H R (fun s0 mh h0 => (hx s0 mh h0).1)) ?_
    rintro r t ⟨⟨s0, mh, h0, kt⟩, Ht, Rt, w⟩
    simp only [M_Ta_write_j118, ok_B, ok_C, ok_R, ok_L, ok_K, ok_GI, ok_GL, ok_PI, ok_PL, ok_AI, ok_AL, ok_SI, ok_SL, ok_CI, cmp_lt, cmp_le, cmp_gt, cmp_ge, cmp_eq, nar0, nar1, Sum.elim_inl, Sum.elim_inr, ok_PzT, ok_PzC, ok_PzP, ok_PrC, ok_PrP, ok_PrF, ok_PrN, ok_Ln, ok_CL, ok_Nw, ok_S, ok_Ks, ok_Nz]
    refine ⟨fun r0 => ?_, fun r0 => ⟨⟨x, s0, mh, h0, kt⟩, Ht, Rt, ?_⟩⟩
    · rw [r0] at w ⊢
      have lt : (cE t x).toInt < (cR t x).toInt := by
        rcases w with w | w | w
        · exact w.2
        · exact absurd w (by decide)
        · exact absurd w (by decide)
      exact ap s0 t mh h0 kt Ht Rt lt
    · rcases w with w | w | w
      · exact absurd w.1 r0
      · rw [w]
        decide
      · rw [w]
        decide
  · simp only [M_Ta_write_j118, ok_B, ok_C, ok_R, ok_L, ok_K, ok_GI, ok_GL, ok_PI, ok_PL, ok_AI, ok_AL, ok_SI, ok_SL, ok_CI, cmp_lt, cmp_le, cmp_gt, cmp_ge, cmp_eq, nar0, nar1, Sum.elim_inl, Sum.elim_inr, ok_PzT, ok_PzC, ok_PzP, ok_PrC, ok_PrP, ok_PrF, ok_PrN, ok_Ln, ok_CL, ok_Nw, ok_S, ok_Ks, ok_Nz]
    refine ⟨fun _ => ap s2 s2 (cMh.refl x s2) H (cHx.refl s2) H R ?_, fun z => absurd trivial z⟩
    have : (cE s2 x).toInt ≠ (cR s2 x).toInt := fun z => q (toInt_inj z)
    omega
  · rcases hp with rfl | ⟨i, i0, i1, rfl⟩
    · exact absurd (show (-1 : Int32) < 0 by decide) c
    · have lt : i < cR s2 x := by
        rw [i32_lt] at i1 ⊢
        omega
      have ii := cIn.add H.1 hx0 i0 lt
      have i0' := i0
      rw [i32_le] at i0'
      have lt' := lt
      rw [i32_lt] at lt'
      have hp : 0 ≤ cS0 s2 x + i ∧ cS0 s2 x + i < 50000 := by
        rw [i32_le, i32_lt]
        omega
      have key : ∀ T : S1, (∀ f j, f ≠ 18575 → gI T f j = gI s2 f j) → (∀ f j, gL T f j = gL s2 f j) → (∀ a j p, gA T a j p = if a = 123 ∧ j = 0 ∧ p = cS0 s2 x + i then k' else gA s2 a j p) → (∀ a j p, gB T a j p = if a = 124 ∧ j = 0 ∧ p = cS0 s2 x + i then v' else gB s2 a j p) → wrQ s2 n e 0 T := fun T TI TL TA TB => by
        obtain ⟨HT, tw⟩ := vw_fin H.1 hx0 i0 i1 hv0 TI TL TA TB
        have t13 : cTl T 13 = cTl s2 13 := tw.2.2.1 _ _ _ (fun z => absurd z (by decide))
        exact ⟨⟨x, s2, cMh.refl x s2, H, tw.hx⟩, tw.hx.hr H HT, tw.hx.ro R (by rw [t13]; exact Int.le_refl _) (by rw [t13]; exact R.1.2.1.2), .inl rfl⟩
      have w0 : wrQ s2 n e 0 (sB (sA s2 123 0 (cS0 s2 x + i) k') 124 0 (cS0 s2 x + i) v') := key _ (fun _ _ _ => rfl) (fun _ _ => rfl) (fun a j p => by simp only [gI_sI, gI_sL, gI_sA, gI_sB, gI_sAf, gI_sBf, gL_sI, gL_sL, gL_sA, gL_sB, gL_sAf, gL_sBf, gA_sI, gA_sL, gA_sA, gA_sB, gA_sAf, gA_sBf, gB_sI, gB_sL, gB_sA, gB_sB, gB_sAf, gB_sBf, Nat.reduceEqDiff, Nat.reduceMul, Nat.reduceAdd, false_and, true_and, and_true, and_false, if_true, if_false]) (fun a j p => by simp only [gI_sI, gI_sL, gI_sA, gI_sB, gI_sAf, gI_sBf, gL_sI, gL_sL, gL_sA, gL_sB, gL_sAf, gL_sBf, gA_sI, gA_sL, gA_sA, gA_sB, gA_sAf, gA_sBf, gB_sI, gB_sL, gB_sA, gB_sB, gB_sAf, gB_sBf, Nat.reduceEqDiff, Nat.reduceMul, Nat.reduceAdd, false_and, true_and, and_true, and_false, if_true, if_false])
      refine ⟨hp, hp, fun _ => ⟨fun _ => ⟨fun _ => w0, fun _ => ⟨fun _ => w0, fun _ => ?_⟩⟩, fun _ => w0⟩, fun _ => w0⟩
      refine key _ (fun f j q => ?_) (fun _ _ => rfl) (fun a j p => by simp only [gI_sI, gI_sL, gI_sA, gI_sB, gI_sAf, gI_sBf, gL_sI, gL_sL, gL_sA, gL_sB, gL_sAf, gL_sBf, gA_sI, gA_sL, gA_sA, gA_sB, gA_sAf, gA_sBf, gB_sI, gB_sL, gB_sA, gB_sB, gB_sAf, gB_sBf, Nat.reduceEqDiff, Nat.reduceMul, Nat.reduceAdd, false_and, true_and, and_true, and_false, if_true, if_false]) (fun a j p => by simp only [gI_sI, gI_sL, gI_sA, gI_sB, gI_sAf, gI_sBf, gL_sI, gL_sL, gL_sA, gL_sB, gL_sAf, gL_sBf, gA_sI, gA_sL, gA_sA, gA_sB, gA_sAf, gA_sBf, gB_sI, gB_sL, gB_sA, gB_sB, gB_sAf, gB_sBf, Nat.reduceEqDiff, Nat.reduceMul, Nat.reduceAdd, false_and, true_and, and_true, and_false, if_true, if_false])
      rw [gI_sI, if_neg (fun z => q z.1)]
      rfl
/-- a table's mark of its border is no matter -/
def cB5 (s t : S1) : Prop := (∀ f j, f ≠ 18575 → gI t f j = gI s f j) ∧ t.2 = s.2
theorem cB5.hi {s t : S1} (h : cB5 s t) (H : cHI s) : cHI t := by
  have eA : ∀ a j k, gA t a j k = gA s a j k := fun a j k => by
    show t.2.2.1 a j k = s.2.2.1 a j k
    rw [h.2]
  have eB : ∀ a j k, gB t a j k = gB s a j k := fun a j k => by
    show t.2.2.2 a j k = s.2.2.2 a j k
    rw [h.2]
  have eL : ∀ f j, gL t f j = gL s f j := fun f j => by
    show t.2.1 f j = s.2.1 f j
    rw [h.2]
  have hk : cHx s t := ⟨fun f j q => h.1 f j q.2.2.2.2.1, eL, fun a j k _ => eA a j k, fun a j k _ => eB a j k, fun j _ => eA _ _ _⟩
  refine H.tx hk (H.2.2.2.2.2.congr (h.1 _ _ (by decide)) (fun p => eA _ _ _) (fun y => h.1 _ _ (by decide)) (fun y => h.1 _ _ (by decide)) (fun y => hk.lv) (eA _ _ _)) (fun y hy => ?_)
  have w := H.tbv hy
  unfold tbl cTs at w ⊢
  rw [hk.lv']
  simp only [cMt, cE, cS0, cR, cTop, cTy, cKk, cKv, cVk, cVv, cHd, cCh, eA, eB, h.1 18574 _ (by decide), h.1 18573 _ (by decide), h.1 18571 _ (by decide), h.1 18572 _ (by decide), h.1 15367 _ (by decide), h.1 18560 _ (by decide)] at w ⊢
  exact w
def bdP (s : S1) (x : Int32) (y : Int32 ⊕ Int32) (t : S1) : Prop := cB5 s t ∧ (y = .inl x ∨ y = .inr x)
theorem border_ok {s : S1} {x : Int32} (H : cHI s) (hx : cLv false s x 5) : ok (M_Ta_border x) s (fun _ t => cB5 s t) := by
  have e1 : (1 : Int32).toInt = 1 := rfl
  have e0 : (0 : Int32).toInt = 0 := rfl
  have e5 : (50000 : Int32).toInt = 50000 := rfl
  obtain ⟨⟨a1, a2, a3, a4, a5⟩, a6, a7⟩ := H.tI hx
  simp only [M_Ta_border, ok_B, ok_C, ok_R, ok_L, ok_K, ok_GI, ok_GL, ok_PI, ok_PL, ok_AI, ok_AL, ok_SI, ok_SL, ok_CI, cmp_lt, cmp_le, cmp_gt, cmp_ge, cmp_eq, nar0, nar1, Sum.elim_inl, Sum.elim_inr, ok_PzT, ok_PzC, ok_PzP, ok_PrC, ok_PrP, ok_PrF, ok_PrN, ok_Ln, ok_CL, ok_Nw, ok_S, ok_Ks, ok_Nz]
  refine ⟨H.1.2 x hx.1.1 hx.1.2, ?_⟩
  refine ok_mono (P := bdP s x) (ok_W (fun y t => (y.1 = x ∧ y.2.1 = x) ∧ cB5 s t) (fun y _ => ((cR s x).toInt - y.2.2.toInt).toNat) ?_ (x, x, gI s 18575 x) s ⟨⟨rfl, rfl⟩, fun _ _ _ => rfl, rfl⟩) ?_
  · rintro ⟨x1, x2, i⟩ t ⟨⟨ex1, ex2⟩, hb⟩
    dsimp only at hb ex1 ex2
    subst ex1 ex2
    have Ht := hb.hi H
    have hxt : cLv false t x2 5 := by
      rw [cLv_f, show cN t = cN s from hb.1 _ _ (by decide), show cTy t x2 = cTy s x2 from hb.1 _ _ (by decide)]
      exact (cLv_f).1 hx
    have eR : gI t 18572 x2 = cR s x2 := hb.1 _ _ (by decide)
    simp only [M_Ta_border_L15, ok_B, ok_C, ok_R, ok_L, ok_K, ok_GI, ok_GL, ok_PI, ok_PL, ok_AI, ok_AL, ok_SI, ok_SL, ok_CI, cmp_lt, cmp_le, cmp_gt, cmp_ge, cmp_eq, nar0, nar1, Sum.elim_inl, Sum.elim_inr, ok_PzT, ok_PzC, ok_PzP, ok_PrC, ok_PrP, ok_PrF, ok_PrN, ok_Ln, ok_CL, ok_Nw, ok_S, ok_Ks, ok_Nz]
    refine ⟨fun _ => ⟨hb, .inr rfl⟩, fun c => ?_⟩
    rw [eR, i32_le] at c
    refine ok_mono (find_ok Ht hxt 3 _) ?_
    rintro p t2 ⟨es, hp⟩
    subst es
    refine ⟨fun _ => ⟨hb, .inr rfl⟩, fun d => ?_⟩
    rcases hp with rfl | ⟨j, j0, j1, rfl⟩
    · exact absurd (show (-1 : Int32) < 0 by decide) d
    · obtain ⟨⟨b1, b2, b3, b4, b5⟩, b6, b7⟩ := Ht.tI hxt
      have lt : j < cR t2 x2 := by
        rw [i32_lt] at j1 ⊢
        omega
      have ii := cIn.add Ht hxt j0 lt
      have lt' := lt
      rw [i32_le] at j0
      rw [i32_lt] at lt'
      have ei : (i + 1).toInt = i.toInt + 1 := by
        have := Int32.le_toInt i
        rw [ktI_add] <;> omega
      refine ⟨⟨by rw [i32_le]; omega, by rw [i32_lt]; omega⟩, fun _ => ⟨hb, .inl rfl⟩, fun _ => ⟨⟨⟨by trivial, by trivial⟩, fun f j q => ?_, hb.2⟩, by omega⟩⟩
      rw [gI_sI, if_neg (fun z => q z.1)]
      exact hb.1 f j q
  · rintro y t ⟨hb, rfl | rfl⟩
    · simp only [Sum.elim_inl, M_Ta_border_j66, ok_B, ok_C, ok_R, ok_L, ok_K, ok_GI, ok_GL, ok_PI, ok_PL, ok_AI, ok_AL, ok_SI, ok_SL, ok_CI, cmp_lt, cmp_le, cmp_gt, cmp_ge, cmp_eq, nar0, nar1, Sum.elim_inl, Sum.elim_inr, ok_PzT, ok_PzC, ok_PzP, ok_PrC, ok_PrP, ok_PrF, ok_PrN, ok_Ln, ok_CL, ok_Nw, ok_S, ok_Ks, ok_Nz]
      exact hb
    · simp only [Sum.elim_inr, M_Ta_border_j66, ok_B, ok_C, ok_R, ok_L, ok_K, ok_GI, ok_GL, ok_PI, ok_PL, ok_AI, ok_AL, ok_SI, ok_SL, ok_CI, cmp_lt, cmp_le, cmp_gt, cmp_ge, cmp_eq, nar0, nar1, Sum.elim_inl, Sum.elim_inr, ok_PzT, ok_PzC, ok_PzP, ok_PrC, ok_PrP, ok_PrF, ok_PrN, ok_Ln, ok_CL, ok_Nw, ok_S, ok_Ks, ok_Nz]
      exact hb
/-- a place of the pool has an entry -/
def inT (s : S1) (p : Int32) : Prop := ∃ y i, cLv false s y 5 ∧ 0 ≤ i ∧ i < cE s y ∧ p = cS0 s y + i
theorem inT.v {s : S1} (H : cHI s) {p : Int32} (h : inT s p) : (0 ≤ p ∧ p < 50000) ∧ cV (cLv false s) (cKk s p) (cKv s p) ∧ cV (cLv false s) (cVk s p) (cVv s p) := by
  obtain ⟨y, i, hy, i0, i1, rfl⟩ := h
  obtain ⟨⟨a1, a2, a3, a4, a5⟩, a6, a7⟩ := H.tI hy
  have e0 : (0 : Int32).toInt = 0 := rfl
  have e5 : (50000 : Int32).toInt = 50000 := rfl
  have lt : i < cR s y := by
    rw [i32_lt] at i1 ⊢
    omega
  have ii := cIn.add H hy i0 lt
  have w := (H.tbv hy).2.1 i i0 i1
  rw [i32_le] at i0
  rw [i32_lt] at lt
  exact ⟨by rw [i32_le, i32_lt]; omega, w⟩
def feQ (s : S1) (r : Int32) (s' : S1) : Prop := s' = s ∧ (r = -1 ∨ 0 ≤ r ∧ inT s r ∧ cVk s r ≠ 0)
theorem findEvent_ok {s : S1} (H : cHI s) (k : Int32) (v : Int64) (ev : Int32) (hk : k = 5 → cLv false s v.toInt32 5) (he : 0 ≤ ev.toInt ∧ ev.toInt < 33) : ok (M_Ta_findEvent k v ev) s (feQ s) := by
  have e0 : (0 : Int32).toInt = 0 := rfl
  have e24 : (24 : Int32).toInt = 24 := rfl
  have e57 : (57 : Int32).toInt = 57 := rfl
  simp only [M_Ta_findEvent, M_Ta_findEvent_j72, ok_B, ok_C, ok_R, ok_L, ok_K, ok_GI, ok_GL, ok_PI, ok_PL, ok_AI, ok_AL, ok_SI, ok_SL, ok_CI, cmp_lt, cmp_le, cmp_gt, cmp_ge, cmp_eq, nar0, nar1, Sum.elim_inl, Sum.elim_inr, ok_PzT, ok_PzC, ok_PzP, ok_PrC, ok_PrP, ok_PrF, ok_PrN, ok_Ln, ok_CL, ok_Nw, ok_S, ok_Ks, ok_Nz]
  refine ⟨fun c => ?_, fun _ => ⟨rfl, .inl rfl⟩⟩
  have hv := hk c
  refine ⟨H.1.2 _ hv.1.1 hv.1.2, fun d => ?_, fun _ => ⟨rfl, .inl rfl⟩⟩
  have ei : ((24 : Int32) + ev).toInt = 24 + ev.toInt := by rw [ktI_add] <;> omega
  have hm : cLv false s (cMt s v.toInt32) 5 := by
    rcases (H.tbv hv).1 with w | w
    · exact absurd d (by rw [i32_le]; rw [i32_lt] at w; show ¬ _ ≤ (cMt s v.toInt32).toInt; omega)
    · exact w
  refine ⟨⟨by rw [i32_le]; omega, by rw [i32_lt]; omega⟩, ?_⟩
  refine ok_mono (find_ok H hm 4 _) ?_
  rintro p s2 ⟨es, hp⟩
  subst es
  refine ⟨fun _ => ⟨rfl, .inl rfl⟩, fun c => ?_⟩
  rcases hp with rfl | ⟨i, i0, i1, rfl⟩
  · exact absurd (show (-1 : Int32) < 0 by decide) c
  · have it : inT s2 (cS0 s2 (cMt s2 v.toInt32) + i) := ⟨_, i, hm, i0, i1, rfl⟩
    have w := it.v H
    exact ⟨w.1, fun _ => ⟨rfl, .inl rfl⟩, fun z => ⟨rfl, .inr ⟨w.1.1, it, z⟩⟩⟩
