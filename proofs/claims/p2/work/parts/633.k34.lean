/-! The class: moveTo. -/
def mvQ (x room : Int32) (w s t : S1) : Prop := cHI t ∧ cHx (rp w s) t ∧ (∀ j, cTl t j = cTl s j) ∧ cR t x = room ∧ (cE t x).toInt ≤ (cR s x).toInt ∧ ∀ f j, f = 18574 ∨ f = 18575 → gI t f j = gI s f j
theorem mv116_ok {v w T : S1} {x room : Int32} (H : cHI (rp w v)) (hx : cLv false v x 5) (hlt : (cR v x).toInt < room.toInt) (HT : cHI T) (kT : cHx (rp w v) T) (S0T : cS0 T x = cTop v) (RT : cR T x = room) (ET : cE T x = 0) (TA : ∀ a k, a = 121 ∨ a = 123 → gA T a 0 k = gA v a 0 k) (TB : ∀ a k, gB T a 0 k = gB v a 0 k) (TT : ∀ j, cTl T j = cTl v j) (T4 : ∀ f j, f = 18574 ∨ f = 18575 → gI T f j = gI v f j) :
    ok (oW M_Ta_moveTo_L116 (x, cS0 v x, cE v x, cS0 v x)) T (fun _ t => mvQ x room w v t) := by
  have e0 : (0 : Int32).toInt = 0 := rfl
  have e1 : (1 : Int32).toInt = 1 := rfl
  have e5 : (50000 : Int32).toInt = 50000 := rfl
  have hx' : cLv false (rp w v) x 5 := hx
  have hxT : cLv false T x 5 := kT.lv.2 hx'
  obtain ⟨⟨a1, a2, a3, a4, a5⟩, a6, a7⟩ := H.tI hx'
  change (cS0 v x).toInt + (cR v x).toInt ≤ (cTop v).toInt at a4
  change 0 ≤ (cR v x).toInt at a2
  change (cR v x).toInt ≤ 40000 at a3
  change 0 ≤ (cS0 v x).toInt at a1
  change (cTop v).toInt ≤ 50000 at a5
  change 0 ≤ (cE v x).toInt at a6
  change (cE v x).toInt ≤ (cR v x).toInt at a7
  have eb : (cS0 v x + cE v x).toInt = (cS0 v x).toInt + (cE v x).toInt := by rw [ktI_add] <;> omega
  refine ok_W (fun y t => (y.1 = x ∧ y.2.1 = cS0 v x ∧ y.2.2.1 = cE v x) ∧ ((cS0 v x).toInt ≤ y.2.2.2.toInt ∧ y.2.2.2.toInt ≤ (cS0 v x).toInt + (cE v x).toInt) ∧ cHI t ∧ cTw x T t ∧ (∀ j, gI t 18575 j = gI T 18575 j) ∧ (cE t x).toInt = y.2.2.2.toInt - (cS0 v x).toInt) (fun y _ => ((cS0 v x).toInt + (cE v x).toInt - y.2.2.2.toInt).toNat) ?_ (x, cS0 v x, cE v x, cS0 v x) T ⟨⟨rfl, rfl, rfl⟩, ⟨Int.le_refl _, by dsimp only; omega⟩, HT, cTw.refl x T, fun _ => rfl, by rw [ET]; dsimp only; omega⟩
  rintro ⟨x', f', c', i⟩ t ⟨⟨ex, ef, ec⟩, ⟨i0, i1⟩, Ht, tw, t75, hE⟩
  dsimp only at i0 i1 hE ex ef ec
  subst ex ef ec
  simp only [M_Ta_moveTo_L116, ok_B, ok_C, ok_R, ok_L, ok_K, ok_GI, ok_GL, ok_PI, ok_PL, ok_AI, ok_AL, ok_SI, ok_SL, ok_CI, cmp_lt, cmp_le, cmp_gt, cmp_ge, cmp_eq, nar0, nar1, Sum.elim_inl, Sum.elim_inr, ok_PzT, ok_PzC, ok_PzP, ok_PrC, ok_PrP, ok_PrF, ok_PrN, ok_Ln, ok_CL, ok_Nw, ok_S, ok_Ks, ok_Nz]
  refine ⟨fun c => ?_, fun c => ?_⟩
  · refine ⟨Ht, kT.trans tw.hx, fun j => ?_, (tw.s0 x').2.1.trans RT, by omega, fun f j q => ?_⟩
    · rw [show cTl t j = cTl T j from tw.2.2.1 _ _ _ (fun z => absurd z (by decide))]
      exact TT j
    · rcases q with rfl | rfl
      · exact ((tw.s0 j).2.2).trans (T4 _ _ (.inl rfl))
      · exact (t75 j).trans (T4 _ _ (.inr rfl))
  · rw [i32_le] at c
    have c' : i.toInt < (cS0 v x').toInt + (cE v x').toInt := by
      rw [← eb]
      have : (gI v 18571 x' + gI v 18573 x').toInt = (cS0 v x' + cE v x').toInt := rfl
      omega
    have ei : (i + 1).toInt = i.toInt + 1 := by rw [ktI_add] <;> omega
    have hp : 0 ≤ i ∧ i < 50000 := by
      rw [i32_le, i32_lt]
      omega
    have nin : ¬ ((0 : Int32) = 0 ∧ cIn T x' i) := fun z => by
      have := z.2.1
      rw [S0T] at this
      omega
    have d : (i - cS0 v x').toInt = i.toInt - (cS0 v x').toInt := by rw [ktI_sub] <;> omega
    have eq : cS0 v x' + (i - cS0 v x') = i := toInt_inj (by rw [ktI_add] <;> omega)
    have ent := (H.tbv hx').2.1 (i - cS0 v x') (by rw [i32_le]; omega) (by rw [i32_lt]; show _ < (cE v x').toInt; omega)
    change cV (cLv false v) (gA (rp w v) 121 0 (cS0 v x' + (i - cS0 v x'))) (gB v 122 0 (cS0 v x' + (i - cS0 v x'))) ∧ cV (cLv false v) (gA (rp w v) 123 0 (cS0 v x' + (i - cS0 v x'))) (gB v 124 0 (cS0 v x' + (i - cS0 v x'))) at ent
    rw [eq, rp_A _ _ _ _ _ (by decide), rp_A _ _ _ _ _ (by decide)] at ent
    have lvt : cLv false t = cLv false v := (tw.hx.lv').trans (kT.lv')
    have g1 : gA t 121 0 i = gA v 121 0 i := (tw.2.2.1 _ _ _ (fun _ => nin)).trans (TA _ _ (.inl rfl))
    have g2 : gA t 123 0 i = gA v 123 0 i := (tw.2.2.1 _ _ _ (fun _ => nin)).trans (TA _ _ (.inr rfl))
    have g3 : gB t 122 0 i = gB v 122 0 i := (tw.2.2.2 _ _ _ (fun _ => nin)).trans (TB _ _)
    have g4 : gB t 124 0 i = gB v 124 0 i := (tw.2.2.2 _ _ _ (fun _ => nin)).trans (TB _ _)
    refine ⟨hp, hp, hp, hp, ?_⟩
    have hxt : cLv false t x' 5 := tw.hx.lv.2 hxT
    refine ok_mono (append_ok (k := gA t 121 0 i) (v := gB t 122 0 i) (k' := gA t 123 0 i) (v' := gB t 124 0 i) Ht hxt ?_ ?_ ?_) ?_
    · rw [(tw.s0 x').2.1, RT]
      omega
    · rw [g1, g3, lvt]
      exact ent.1
    · rw [g2, g4, lvt]
      exact ent.2
    · rintro - u ⟨Hu, tu, uE, u75, -⟩
      refine ⟨⟨⟨by trivial, by trivial, by trivial⟩, ⟨by omega, by omega⟩, Hu, tw.trans tu, fun j => (u75 j).trans (t75 j), ?_⟩, by omega⟩
      rw [uE, ktI_add] <;> omega
theorem mv56_ok {v v1 w : S1} {x room : Int32} (H : cHI (rp w v)) (hx : cLv false v x 5) (hroom : 0 < room.toInt ∧ room.toInt ≤ 40000) (hlt : (cR v x).toInt < room.toInt) (htop : (cTop v).toInt + room.toInt ≤ 50000) (t6 : (cTl v 6).toInt = (cTl w 6).toInt + room.toInt - (cR v x).toInt) (tj : ∀ j, j ≠ 6 ∧ j ≠ 7 ∧ j ≠ 13 → cTl v j = cTl w j)
    (V1 : ∀ f j, gI v1 f j = gI v f j) (V2 : ∀ f j, gL v1 f j = gL v f j) (V3 : ∀ a j k, gB v1 a j k = gB v a j k) (V4 : ∀ a j k, a ≠ 127 → gA v1 a j k = gA v a j k) (V5 : ∀ k, cOw v1 k = if 0 < (cR v x).toInt ∧ k = cS0 v x then -cR v x else cOw v k) :
    ok (M_Ta_moveTo_j56 x room x (cS0 v x) (cE v x)) v1 (fun _ t => mvQ x room w v t) := by
  have e0 : (0 : Int32).toInt = 0 := rfl
  have e5 : (50000 : Int32).toInt = 50000 := rfl
  obtain ⟨⟨a1, a2, a3, a4, a5⟩, a6, a7⟩ := H.tI (x := x) hx
  change (cS0 v x).toInt + (cR v x).toInt ≤ (cTop v).toInt at a4
  change 0 ≤ (cR v x).toInt at a2
  change 0 ≤ (cS0 v x).toInt at a1
  have eT : (cTop v + room).toInt = (cTop v).toInt + room.toInt := by rw [ktI_add] <;> omega
  have l5 : (lnI 125).toInt = 50000 := rfl
  simp only [M_Ta_moveTo_j56, ok_B, ok_C, ok_R, ok_L, ok_K, ok_GI, ok_GL, ok_PI, ok_PL, ok_AI, ok_AL, ok_SI, ok_SL, ok_CI, cmp_lt, cmp_le, cmp_gt, cmp_ge, cmp_eq, nar0, nar1, Sum.elim_inl, Sum.elim_inr, ok_PzT, ok_PzC, ok_PzP, ok_PrC, ok_PrP, ok_PrF, ok_PrN, ok_Ln, ok_CL, ok_Nw, ok_S, ok_Ks, ok_Nz]
  simp only [gI_sI, gI_sL, gI_sA, gI_sB, gI_sAf, gI_sBf, gL_sI, gL_sL, gL_sA, gL_sB, gL_sAf, gL_sBf, gA_sI, gA_sL, gA_sA, gA_sB, gA_sAf, gA_sBf, gB_sI, gB_sL, gB_sA, gB_sB, gB_sAf, gB_sBf, Nat.reduceEqDiff, Nat.reduceMul, Nat.reduceAdd, false_and, true_and, and_true, and_false, if_true, if_false, V1]
  refine ⟨⟨by rw [i32_le]; show _ ≤ (cTop v).toInt; omega, by rw [i32_lt]; show (cTop v).toInt < _; omega⟩, ?_⟩
  refine ok_mono (cfill_ok _ 125 0 (cTop v) (cTop v + room) (-1) (pr125 _) ⟨by omega, by omega, by omega⟩ (by omega)) ?_
  rintro - t ⟨f1, f2, f3, f4⟩
  have tt : gI t 15367 0 = cTop v := by
    rw [f1]
    simp only [gI_sI, gI_sL, gI_sA, gI_sB, gI_sAf, gI_sBf, gL_sI, gL_sL, gL_sA, gL_sB, gL_sAf, gL_sBf, gA_sI, gA_sL, gA_sA, gA_sB, gA_sAf, gA_sBf, gB_sI, gB_sL, gB_sA, gB_sB, gB_sAf, gB_sBf, Nat.reduceEqDiff, Nat.reduceMul, Nat.reduceAdd, false_and, true_and, and_true, and_false, if_true, if_false, V1]
  rw [tt]
  have TI : ∀ f j, gI (sI t 15367 0 (cTop v + room)) f j = if f = 15367 ∧ j = 0 then cTop v + room else if f = 18573 ∧ j = x then 0 else if f = 18572 ∧ j = x then room else if f = 18571 ∧ j = x then cTop v else gI v f j := fun f j => by
    rw [gI_sI, f1]
    simp only [gI_sI, gI_sL, gI_sA, gI_sB, gI_sAf, gI_sBf, gL_sI, gL_sL, gL_sA, gL_sB, gL_sAf, gL_sBf, gA_sI, gA_sL, gA_sA, gA_sB, gA_sAf, gA_sBf, gB_sI, gB_sL, gB_sA, gB_sB, gB_sAf, gB_sBf, Nat.reduceEqDiff, Nat.reduceMul, Nat.reduceAdd, false_and, true_and, and_true, and_false, if_true, if_false, V1]
  have TL : ∀ f j, gL (sI t 15367 0 (cTop v + room)) f j = gL v f j := fun f j => by
    rw [gL_sI, f2]
    simp only [gI_sI, gI_sL, gI_sA, gI_sB, gI_sAf, gI_sBf, gL_sI, gL_sL, gL_sA, gL_sB, gL_sAf, gL_sBf, gA_sI, gA_sL, gA_sA, gA_sB, gA_sAf, gA_sBf, gB_sI, gB_sL, gB_sA, gB_sB, gB_sAf, gB_sBf, Nat.reduceEqDiff, Nat.reduceMul, Nat.reduceAdd, false_and, true_and, and_true, and_false, if_true, if_false, V2]
  have TA : ∀ a j k, a ≠ 125 ∧ a ≠ 127 → gA (sI t 15367 0 (cTop v + room)) a j k = gA v a j k := fun a j k q => by
    rw [gA_sI, f4, if_neg (fun z => q.1 z.1)]
    simp only [gA_sI, gA_sA]
    rw [if_neg (fun z => q.2 z.1), V4 a j k q.2]
  have T5 : ∀ k, cHd (sI t 15367 0 (cTop v + room)) k = if (cTop v).toInt ≤ k.toInt ∧ k.toInt < (cTop v).toInt + room.toInt then -1 else cHd v k := fun k => by
    unfold cHd
    rw [gA_sI, f4, eT]
    by_cases q : (cTop v).toInt ≤ k.toInt ∧ k.toInt < (cTop v).toInt + room.toInt
    · rw [if_pos ⟨rfl, rfl, q⟩, if_pos q]
    · rw [if_neg (fun z => q z.2.2), if_neg q]
      simp only [gI_sI, gI_sL, gI_sA, gI_sB, gI_sAf, gI_sBf, gL_sI, gL_sL, gL_sA, gL_sB, gL_sAf, gL_sBf, gA_sI, gA_sL, gA_sA, gA_sB, gA_sAf, gA_sBf, gB_sI, gB_sL, gB_sA, gB_sB, gB_sAf, gB_sBf, Nat.reduceEqDiff, Nat.reduceMul, Nat.reduceAdd, false_and, true_and, and_true, and_false, if_true, if_false]
      exact V4 _ _ _ (by decide)
  have T7 : ∀ k, cOw (sI t 15367 0 (cTop v + room)) k = if k = cTop v then x else if 0 < (cR v x).toInt ∧ k = cS0 v x then -cR v x else cOw v k := fun k => by
    rw [← V5]
    unfold cOw
    rw [gA_sI, f4, if_neg (fun z => absurd z.1 (by decide))]
    simp only [gI_sI, gI_sL, gI_sA, gI_sB, gI_sAf, gI_sBf, gL_sI, gL_sL, gL_sA, gL_sB, gL_sAf, gL_sBf, gA_sI, gA_sL, gA_sA, gA_sB, gA_sAf, gA_sBf, gB_sI, gB_sL, gB_sA, gB_sB, gB_sAf, gB_sBf, Nat.reduceEqDiff, Nat.reduceMul, Nat.reduceAdd, false_and, true_and, and_true, and_false, if_true, if_false]
  have TB : ∀ a j k, gB (sI t 15367 0 (cTop v + room)) a j k = gB v a j k := fun a j k => by
    rw [gB_sI, f3]
    simp only [gI_sI, gI_sL, gI_sA, gI_sB, gI_sAf, gI_sBf, gL_sI, gL_sL, gL_sA, gL_sB, gL_sAf, gL_sBf, gA_sI, gA_sL, gA_sA, gA_sB, gA_sAf, gA_sBf, gB_sI, gB_sL, gB_sA, gB_sB, gB_sAf, gB_sBf, Nat.reduceEqDiff, Nat.reduceMul, Nat.reduceAdd, false_and, true_and, and_true, and_false, if_true, if_false, V3]
  generalize sI t 15367 0 (cTop v + room) = T at TI TL TA T5 T7 TB
  have mid := mv_mid H hx hroom htop t6 tj TI TL TA T5 T7 TB
  exact mv116_ok H hx hlt mid.1 mid.2 ((TI 18571 x).trans (by simp)) ((TI 18572 x).trans (by simp)) ((TI 18573 x).trans (by simp)) (fun a k q => TA a 0 k (by rcases q with rfl | rfl <;> decide)) (fun a k => TB a 0 k) (fun j => TA _ _ _ (by decide)) (fun f j q => by
    rw [TI]
    rcases q with rfl | rfl <;> simp)
theorem mv15_ok {v w : S1} {x room : Int32} (H : cHI (rp w v)) (hx : cLv false v x 5) (hroom : 0 < room.toInt ∧ room.toInt ≤ 40000) (hlt : (cR v x).toInt < room.toInt) (htop : (cTop v).toInt + room.toInt ≤ 50000) (t6 : (cTl v 6).toInt = (cTl w 6).toInt + room.toInt - (cR v x).toInt) (tj : ∀ j, j ≠ 6 ∧ j ≠ 7 ∧ j ≠ 13 → cTl v j = cTl w j) :
    ok (M_Ta_moveTo_j15 x room) v (fun _ t => mvQ x room w v t) := by
  have e0 : (0 : Int32).toInt = 0 := rfl
  have e5 : (50000 : Int32).toInt = 50000 := rfl
  obtain ⟨⟨a1, a2, a3, a4, a5⟩, a6, a7⟩ := H.tI (x := x) hx
  change (cS0 v x).toInt + (cR v x).toInt ≤ (cTop v).toInt at a4
  change 0 ≤ (cR v x).toInt at a2
  change 0 ≤ (cS0 v x).toInt at a1
  have px : pT v x := H.1.2 x hx.1.1 hx.1.2
  simp only [M_Ta_moveTo_j15, ok_B, ok_C, ok_R, ok_L, ok_K, ok_GI, ok_GL, ok_PI, ok_PL, ok_AI, ok_AL, ok_SI, ok_SL, ok_CI, cmp_lt, cmp_le, cmp_gt, cmp_ge, cmp_eq, nar0, nar1, Sum.elim_inl, Sum.elim_inr, ok_PzT, ok_PzC, ok_PzP, ok_PrC, ok_PrP, ok_PrF, ok_PrN, ok_Ln, ok_CL, ok_Nw, ok_S, ok_Ks, ok_Nz]
  refine ⟨px, fun c => ?_, fun c => ?_⟩
  · rw [i32_le] at c
    refine mv56_ok H hx hroom hlt htop t6 tj (fun _ _ => rfl) (fun _ _ => rfl) (fun _ _ _ => rfl) (fun _ _ _ _ => rfl) (fun k => ?_)
    rw [if_neg (fun z => ?_)]
    have : (cR v x).toInt = (gI v 18572 x).toInt := rfl
    omega
  · rw [i32_le] at c
    have c' : 0 < (cR v x).toInt := by
      have : (cR v x).toInt = (gI v 18572 x).toInt := rfl
      omega
    refine ⟨⟨by rw [i32_le]; show _ ≤ (cS0 v x).toInt; omega, by rw [i32_lt]; show (cS0 v x).toInt < _; omega⟩, ?_⟩
    refine mv56_ok H hx hroom hlt htop t6 tj (fun _ _ => rfl) (fun _ _ => rfl) (fun _ _ _ => rfl) (fun a j k q => ?_) (fun k => ?_)
    · rw [gA_sA, if_neg (fun z => q z.1)]
    · unfold cOw
      rw [gA_sA]
      by_cases q : k = cS0 v x
      · rw [if_pos ⟨rfl, rfl, q⟩, if_pos ⟨c', q⟩]
      · rw [if_neg (fun z => q z.2.2), if_neg (fun z => q z.2)]
theorem moveTo_ok {s w : S1} {x room : Int32} (H : cHI (rp w s)) (hx : cLv false s x 5) (hroom : 0 < room.toInt ∧ room.toInt ≤ 40000) (hlt : (cR s x).toInt < room.toInt) (h40 : (cTl w 6).toInt + room.toInt ≤ 50000) (t6 : (cTl s 6).toInt = (cTl w 6).toInt + room.toInt - (cR s x).toInt) (tj : ∀ j, j ≠ 6 ∧ j ≠ 7 ∧ j ≠ 13 → cTl s j = cTl w j) :
    ok (M_Ta_moveTo x room) s (fun _ t => mvQ x room w s t) := by
  have e5 : (50000 : Int32).toInt = 50000 := rfl
  obtain ⟨⟨a1, a2, a3, a4, a5⟩, a6, a7⟩ := H.tI (x := x) hx
  change (cS0 s x).toInt + (cR s x).toInt ≤ (cTop s).toInt at a4
  change 0 ≤ (cR s x).toInt at a2
  change 0 ≤ (cS0 s x).toInt at a1
  change (cTop s).toInt ≤ 50000 at a5
  simp only [M_Ta_moveTo, ok_B, ok_C, ok_R, ok_L, ok_K, ok_GI, ok_GL, ok_PI, ok_PL, ok_AI, ok_AL, ok_SI, ok_SL, ok_CI, cmp_lt, cmp_le, cmp_gt, cmp_ge, cmp_eq, nar0, nar1, Sum.elim_inl, Sum.elim_inr, ok_PzT, ok_PzC, ok_PzP, ok_PrC, ok_PrP, ok_PrF, ok_PrN, ok_Ln, ok_CL, ok_Nw, ok_S, ok_Ks, ok_Nz]
  refine ⟨fun c => ?_, fun c => ?_⟩
  · rw [i32_le, ktI_add (by show -2147483648 ≤ (cTop s).toInt + room.toInt ∧ (cTop s).toInt + room.toInt < 2147483648; omega)] at c
    change (cTop s).toInt + room.toInt ≤ _ at c
    exact mv15_ok H hx hroom hlt (by omega) t6 tj
  · refine ok_mono (closeUp_ok H) ?_
    rintro - u ⟨⟨Hu, uI, uL, uA, uB, uT⟩, u114⟩
    have tl : ∀ j, cTl u j = cTl s j := fun j => u114 0 j
    have eR : cR u x = cR s x := uI 18572 x (by decide)
    have k1 : cHx (rp w s) (rp w u) := ⟨fun f j q => uI f j ⟨q.1, q.2.2.2.2.2⟩, uL, fun a j k q => uA a j k ⟨q.1, q.2.1, q.2.2.1, q.2.2.2.1, q.2.2.2.2.1⟩, uB, fun j _ => by rw [rp_T, rp_T]⟩
    have hxu : cLv false u x 5 := (k1.lv (y := x) (u := 5)).2 hx
    rw [rp_T] at uT
    change (cTop u).toInt = _ at uT
    refine ok_mono (mv15_ok Hu hxu hroom (by rw [eR]; exact hlt) (by omega) (by rw [tl, eR]; exact t6) (fun j q => by rw [tl]; exact tj j q)) ?_
    rintro - t ⟨Ht, kt, tt, tR, tE, t4⟩
    refine ⟨Ht, k1.trans kt, fun j => (tt j).trans (tl j), tR, by rw [← eR]; exact tE, fun f j q => (t4 f j q).trans (uI f j ?_)⟩
    rcases q with rfl | rfl <;> decide
