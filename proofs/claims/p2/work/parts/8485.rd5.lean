/-! Reading: the inner prototypes. -/
theorem RdE.weak {l p : Int32} {z : S1} (h : RdE l z p) : RdE (-2) z p := ⟨h.1, h.2.1, h.2.2.1, h.2.2.2.1, h.2.2.2.2.1, h.2.2.2.2.2.1, fun w => absurd w (by decide), fun w => absurd w (by decide)⟩
theorem RdE.w {l p : Int32} {z : S1} (h : RdE l z p) (hl : 0 ≤ l) : RdW z l p := ⟨⟨h.2.2.2.1.1, h.2.2.1.1, h.2.2.2.1.2⟩, h.2.2.2.2.2.2.1 hl⟩
/-- a child's number is written -/
theorem cell_g {s0 z : S1} {x v : Int32} (h : RdG s0 z) (hx : nuH s0 ≤ x.toInt) : RdG s0 (sA z 54 0 x v) := by
  obtain ⟨g1, g2, g3, g4, g5, g6, g7, g8, g9, g10, g11⟩ := h
  refine ⟨g1, g2, fun b i j q => ?_, g4, g5, g6, fun b j q r t u => ?_, fun j q r => ?_, fun j q r => ?_, fun j q r => ?_, fun j q r => ⟨?_, (g11 j q r).2.1, ?_⟩⟩
  · have q1 : b ≠ 54 := by omega
    simp only [gI_sI, gI_sL, gI_sA, gI_sB, gI_sAf, gI_sBf, gL_sI, gL_sL, gL_sA, gL_sB, gL_sAf, gL_sBf, gA_sI, gA_sL, gA_sA, gA_sB, gA_sAf, gA_sBf, gB_sI, gB_sL, gB_sA, gB_sB, gB_sAf, gB_sBf, Nat.reduceEqDiff, Nat.reduceMul, Nat.reduceAdd, false_and, true_and, and_true, and_false, if_true, if_false, q1]
    exact g3 b i j q
  · have q1 : b ≠ 54 := by omega
    simp only [gI_sI, gI_sL, gI_sA, gI_sB, gI_sAf, gI_sBf, gL_sI, gL_sL, gL_sA, gL_sB, gL_sAf, gL_sBf, gA_sI, gA_sL, gA_sA, gA_sB, gA_sAf, gA_sBf, gB_sI, gB_sL, gB_sA, gB_sB, gB_sAf, gB_sBf, Nat.reduceEqDiff, Nat.reduceMul, Nat.reduceAdd, false_and, true_and, and_true, and_false, if_true, if_false, q1]
    exact g7 b j q r t u
  · simp only [gI_sI, gI_sL, gI_sA, gI_sB, gI_sAf, gI_sBf, gL_sI, gL_sL, gL_sA, gL_sB, gL_sAf, gL_sBf, gA_sI, gA_sL, gA_sA, gA_sB, gA_sAf, gA_sBf, gB_sI, gB_sL, gB_sA, gB_sB, gB_sAf, gB_sBf, Nat.reduceEqDiff, Nat.reduceMul, Nat.reduceAdd, false_and, true_and, and_true, and_false, if_true, if_false]
    exact g8 j q r
  · have q1 : j ≠ x := fun w => by
      rw [w] at r
      omega
    simp only [gI_sI, gI_sL, gI_sA, gI_sB, gI_sAf, gI_sBf, gL_sI, gL_sL, gL_sA, gL_sB, gL_sAf, gL_sBf, gA_sI, gA_sL, gA_sA, gA_sB, gA_sAf, gA_sBf, gB_sI, gB_sL, gB_sA, gB_sB, gB_sAf, gB_sBf, Nat.reduceEqDiff, Nat.reduceMul, Nat.reduceAdd, false_and, true_and, and_true, and_false, if_true, if_false, q1]
    exact g9 j q r
  · simp only [gI_sI, gI_sL, gI_sA, gI_sB, gI_sAf, gI_sBf, gL_sI, gL_sL, gL_sA, gL_sB, gL_sAf, gL_sBf, gA_sI, gA_sL, gA_sA, gA_sB, gA_sAf, gA_sBf, gB_sI, gB_sL, gB_sA, gB_sB, gB_sAf, gB_sBf, Nat.reduceEqDiff, Nat.reduceMul, Nat.reduceAdd, false_and, true_and, and_true, and_false, if_true, if_false]
    exact g10 j q r
  · simp only [gI_sI, gI_sL, gI_sA, gI_sB, gI_sAf, gI_sBf, gL_sI, gL_sL, gL_sA, gL_sB, gL_sAf, gL_sBf, gA_sI, gA_sL, gA_sA, gA_sB, gA_sAf, gA_sBf, gB_sI, gB_sL, gB_sA, gB_sB, gB_sAf, gB_sBf, Nat.reduceEqDiff, Nat.reduceMul, Nat.reduceAdd, false_and, true_and, and_true, and_false, if_true, if_false]
    exact (g11 j q r).1
  · simp only [gI_sI, gI_sL, gI_sA, gI_sB, gI_sAf, gI_sBf, gL_sI, gL_sL, gL_sA, gL_sB, gL_sAf, gL_sBf, gA_sI, gA_sL, gA_sA, gA_sB, gA_sAf, gA_sBf, gB_sI, gB_sL, gB_sA, gB_sB, gB_sAf, gB_sBf, Nat.reduceEqDiff, Nat.reduceMul, Nat.reduceAdd, false_and, true_and, and_true, and_false, if_true, if_false]
    exact (g11 j q r).2.2
theorem cell_rd {z : S1} {x v : Int32} (h : Rd z) : Rd (sA z 54 0 x v) := by
  obtain ⟨r1, r2, r3, r4, r5, r6⟩ := h
  refine ⟨r1, r2, r3, r4, r5, fun j q r => ?_⟩
  have w := r6 j q r
  simp only [v_constants_k, v_constants_v, a_constText, gI_sI, gI_sL, gI_sA, gI_sB, gI_sAf, gI_sBf, gL_sI, gL_sL, gL_sA, gL_sB, gL_sAf, gL_sBf, gA_sI, gA_sL, gA_sA, gA_sB, gA_sAf, gA_sBf, gB_sI, gB_sL, gB_sA, gB_sB, gB_sAf, gB_sBf, Nat.reduceEqDiff, Nat.reduceMul, Nat.reduceAdd, false_and, true_and, and_true, and_false, if_true, if_false] at *
  exact w
theorem cell_u {z : S1} {x v p c : Int32} : RdU (sA z 54 0 x v) p c ↔ RdU z p c := by
  unfold RdU
  simp only [a_upvalues, a_registers, gI_sI, gI_sL, gI_sA, gI_sB, gI_sAf, gI_sBf, gL_sI, gL_sL, gL_sA, gL_sB, gL_sAf, gL_sBf, gA_sI, gA_sL, gA_sA, gA_sB, gA_sAf, gA_sBf, gB_sI, gB_sL, gB_sA, gB_sB, gB_sAf, gB_sBf, Nat.reduceEqDiff, Nat.reduceMul, Nat.reduceAdd, false_and, true_and, and_true, and_false, if_true, if_false]
theorem cell_w {z : S1} {x v p c : Int32} : RdW (sA z 54 0 x v) p c ↔ RdW z p c := by
  unfold RdW
  simp only [cell_u]
  simp only [nuU, f_upCount, a_upAt, a_upvalues, gI_sI, gI_sL, gI_sA, gI_sB, gI_sAf, gI_sBf, gL_sI, gL_sL, gL_sA, gL_sB, gL_sAf, gL_sBf, gA_sI, gA_sL, gA_sA, gA_sB, gA_sAf, gA_sBf, gB_sI, gB_sL, gB_sA, gB_sB, gB_sAf, gB_sBf, Nat.reduceEqDiff, Nat.reduceMul, Nat.reduceAdd, false_and, true_and, and_true, and_false, if_true, if_false]
theorem cell_e {z : S1} {x v l p : Int32} : RdE l (sA z 54 0 x v) p ↔ RdE l z p := by
  unfold RdE
  simp only [cell_u]
  simp only [nuU, nuK, nuC, f_upCount, f_constCount, f_codeCount, a_params, a_registers, a_upAt, a_upvalues, a_constAt, a_consts, a_codeAt, a_codes, gI_sI, gI_sL, gI_sA, gI_sB, gI_sAf, gI_sBf, gL_sI, gL_sL, gL_sA, gL_sB, gL_sAf, gL_sBf, gA_sI, gA_sL, gA_sA, gA_sB, gA_sAf, gA_sBf, gB_sI, gB_sL, gB_sA, gB_sB, gB_sAf, gB_sBf, Nat.reduceEqDiff, Nat.reduceMul, Nat.reduceAdd, false_and, true_and, and_true, and_false, if_true, if_false]
theorem cell_h {z : S1} {x v p : Int32} {m : Int} (h : RdH z p m) (hx : ∀ k : Int32, 0 ≤ k.toInt → k.toInt < m → a_childAt z p + k ≠ x) : RdH (sA z 54 0 x v) p m := by
  intro k k0 k1 k2
  have e : a_childAt (sA z 54 0 x v) p = a_childAt z p := by simp only [a_childAt, gI_sI, gI_sL, gI_sA, gI_sB, gI_sAf, gI_sBf, gL_sI, gL_sL, gL_sA, gL_sB, gL_sAf, gL_sBf, gA_sI, gA_sL, gA_sA, gA_sB, gA_sAf, gA_sBf, gB_sI, gB_sL, gB_sA, gB_sB, gB_sAf, gB_sBf, Nat.reduceEqDiff, Nat.reduceMul, Nat.reduceAdd, false_and, true_and, and_true, and_false, if_true, if_false]
  rw [e] at k2 ⊢
  have q := hx k k0 k1
  have eg : gA (sA z 54 0 x v) 54 0 (a_childAt z p + k) = gA z 54 0 (a_childAt z p + k) := by simp only [gI_sI, gI_sL, gI_sA, gI_sB, gI_sAf, gI_sBf, gL_sI, gL_sL, gL_sA, gL_sB, gL_sAf, gL_sBf, gA_sI, gA_sL, gA_sA, gA_sB, gA_sAf, gA_sBf, gB_sI, gB_sL, gB_sA, gB_sB, gB_sAf, gB_sBf, Nat.reduceEqDiff, Nat.reduceMul, Nat.reduceAdd, false_and, true_and, and_true, and_false, if_true, if_false, q]
  rw [eg, cell_w]
  exact h k k0 k1 k2
theorem cell_p {z : S1} {x v p : Int32} (h : RdP z p) (hx : x.toInt < (a_childAt z p).toInt) (hh : nuH z ≤ 64000) : RdP (sA z 54 0 x v) p := by
  obtain ⟨h1, h2, h3⟩ := h
  have e1 : a_childAt (sA z 54 0 x v) p = a_childAt z p := by simp only [a_childAt, gI_sI, gI_sL, gI_sA, gI_sB, gI_sAf, gI_sBf, gL_sI, gL_sL, gL_sA, gL_sB, gL_sAf, gL_sBf, gA_sI, gA_sL, gA_sA, gA_sB, gA_sAf, gA_sBf, gB_sI, gB_sL, gB_sA, gB_sB, gB_sAf, gB_sBf, Nat.reduceEqDiff, Nat.reduceMul, Nat.reduceAdd, false_and, true_and, and_true, and_false, if_true, if_false]
  have e2 : a_children (sA z 54 0 x v) p = a_children z p := by simp only [a_children, gI_sI, gI_sL, gI_sA, gI_sB, gI_sAf, gI_sBf, gL_sI, gL_sL, gL_sA, gL_sB, gL_sAf, gL_sBf, gA_sI, gA_sL, gA_sA, gA_sB, gA_sAf, gA_sBf, gB_sI, gB_sL, gB_sA, gB_sB, gB_sAf, gB_sBf, Nat.reduceEqDiff, Nat.reduceMul, Nat.reduceAdd, false_and, true_and, and_true, and_false, if_true, if_false]
  refine ⟨cell_e.mpr h1, ?_, ?_⟩
  · rw [e1, e2]
    exact h2
  · rw [e2]
    refine cell_h h3 fun k k0 k1 w => ?_
    have y := tI_add (a := a_childAt z p) (b := k) (by omega)
    rw [w] at y
    omega
def RdI (s0 z : S1) (l1 p : Int32) (m i : Int) : Prop := RdG s0 z ∧ Rd z ∧ nuU z ≤ 60 * nuP z ∧ nuH z ≤ 255 * nuP z ∧ nuP s0 + 1 ≤ nuP z ∧ nuH s0 + m ≤ nuH z ∧ (a_childAt z p).toInt = nuH s0 ∧ (a_children z p).toInt = m ∧ (f_fault z = 0 → RdE l1 z p ∧ nuP z - (nuP s0 + 1) = i + (nuH z - (nuH s0 + m)) ∧ (∀ q : Int32, nuP s0 + 1 ≤ q.toInt → q.toInt < nuP z → RdP z q ∧ nuH s0 + m ≤ (a_childAt z q).toInt) ∧ RdH z p i)
theorem RdI.done {s0 z : S1} {l1 p : Int32} {m i : Int} (h : RdI s0 z l1 p m i) (hp : p = f_protos s0) (hm : 0 ≤ m) (h0 : 0 ≤ nuH s0) (hi : f_fault z = 0 → i = m) : RdF l1 s0 z := by
  obtain ⟨h1, h2, h3, h4, h5, h6, h7, h8, h9⟩ := h
  refine ⟨h1, h2, h3, h4, fun f => ?_⟩
  obtain ⟨e, c, q, k⟩ := h9 f
  have ei := hi f
  have pe : p.toInt = nuP s0 := by rw [hp]
  refine ⟨by omega, fun x x0 x1 => ?_, fun w => by rw [← hp]; exact e.w w, fun w => by rw [← hp]; exact e.2.2.2.2.2.2.2 w⟩
  by_cases d : x.toInt = nuP s0
  · have ex : x = p := Int32.toInt_inj.mp (by rw [d, pe])
    rw [ex]
    rw [ei] at k
    refine ⟨⟨e.weak, ⟨by omega, by omega, by omega⟩, by rw [h8]; exact k⟩, by omega⟩
  · obtain ⟨a, b⟩ := q x (by omega) x1
    exact ⟨a, by omega⟩
theorem ch458_ok (s0 z1 : S1) (rec : Int32 → Int32 → M Unit) (l1 l2 p m : Int32) (HR : ∀ (s : S1) (q : Int32), Rd s → nuU s ≤ 60 * nuP s → nuH s ≤ 255 * nuP s → (0 ≤ q.toInt ∧ q.toInt < nuP s) → ok (rec q (l2 + 1)) s (fun _ s' => RdF q s s')) (hp : p = f_protos s0) (hP : 0 ≤ nuP s0) (hH : 0 ≤ nuH s0) (hm : 0 ≤ m.toInt ∧ m.toInt ≤ 255) (hl : 0 ≤ l1 → 0 ≤ l1.toInt ∧ l1.toInt < nuP s0) (h : RdI s0 z1 l1 p m.toInt 0) :
    ok (oW (M_Mo_proto_L458 rec) (l2, p, m, 0)) z1 (fun _ s' => RdF l1 s0 s') := by
  have c0 : (0 : Int32).toInt = 0 := rfl
  have pe : p.toInt = nuP s0 := by rw [hp]
  refine ok_W (fun y z => (y.1 = l2 ∧ y.2.1 = p ∧ y.2.2.1 = m) ∧ (0 ≤ y.2.2.2.toInt ∧ y.2.2.2.toInt ≤ m.toInt) ∧ RdI s0 z l1 p m.toInt y.2.2.2.toInt) (fun y _ => (m - y.2.2.2).toNatClampNeg) ?_ (l2, p, m, 0) z1 ⟨⟨rfl, rfl, rfl⟩, ⟨(show (0 : Int) ≤ (0 : Int32).toInt by decide), hm.1⟩, h⟩
  clear h
  rintro ⟨y1, y2, y3, i⟩ z ⟨⟨e1, e2, e3⟩, ⟨i0, i1⟩, hI⟩
  dsimp only at e1 e2 e3 i0 i1 hI
  rw [e1, e2, e3]
  unfold M_Mo_proto_L458
  dsimp only
  rw [ok_C]
  refine ⟨fun d => ?_, fun d => ?_⟩
  · rw [ok_R]
    rw [i32_le] at d
    exact hI.done hp hm.1 hH fun _ => by omega
  obtain ⟨m1, m2, m3⟩ := lp_num (by omega) i0 d
  rw [ok_B, ok_GI, ok_C]
  refine ⟨fun f => ?_, fun f => ?_⟩
  · obtain ⟨h1, h2, h3, h4, h5, h6, h7, h8, h9⟩ := hI
    obtain ⟨hE, hC, hQ, hK⟩ := h9 f
    have pz : 0 ≤ p.toInt ∧ p.toInt < nuP z := by omega
    have pb : 0 ≤ p ∧ p < 251 := i32_in 251 rfl (by have := h2.2.1; omega)
    have b5 := h2.2.2.2.2.1
    have e51 : gA z 51 0 p = a_childAt z p := rfl
    have y := tI_add (a := a_childAt z p) (b := i) (by omega)
    -- behind the inner one
    have fin : ∀ z', RdG s0 z' → Rd z' → nuU z' ≤ 60 * nuP z' → nuH z' ≤ 255 * nuP z' → f_protos z' = f_protos z → f_childCount z' = f_childCount z → a_childAt z' p = a_childAt z p → a_children z' p = a_children z p → RdE l1 z' p → (∀ q : Int32, nuP s0 + 1 ≤ q.toInt → q.toInt < nuP z' → RdP z' q ∧ nuH s0 + m.toInt ≤ (a_childAt z' q).toInt) → RdH z' p i.toInt → ((a_childAt z p).toInt + i.toInt < 256 → gA z' 54 0 (a_childAt z p + i) = f_protos z) →
        ok (M_Mo_proto_j505 rec l2 p m i) z' (fun y s' => Sum.elim (fun q => ((q.1 = l2 ∧ q.2.1 = p ∧ q.2.2.1 = m) ∧ (0 ≤ q.2.2.2.toInt ∧ q.2.2.2.toInt ≤ m.toInt) ∧ RdI s0 s' l1 p m.toInt q.2.2.2.toInt) ∧ (m - q.2.2.2).toNatClampNeg < (m - i).toNatClampNeg) (fun _ => RdF l1 s0 s') y) := fun z' k1 k2 k3 k4 k5 k6 k7 k8 k9 k10 k11 k12 => by
      unfold M_Mo_proto_j505
      rw [ok_B]
      have pz' : 0 ≤ p.toInt ∧ p.toInt < nuP z' := by
        simp only [nuP, k5] at *
        exact pz
      refine ok_mono (HR z' p k2 k3 k4 pz') fun _ s2 ⟨f1, f2, f3, f4, f5⟩ => ?_
      rw [ok_R]
      simp only [Sum.elim_inl]
      obtain ⟨g1, g2, g3, g4, g5⟩ := f1.2.2.2.2.2.1
      have nP : nuP z' = nuP z := by simp only [nuP, k5]
      have nH : nuH z' = nuH z := by simp only [nuH, k6]
      have w1 : a_childAt s2 p = a_childAt z' p := f1.2.2.2.2.2.2.1 51 p (by decide) (by decide) pz'.1 pz'.2
      have w2 : a_children s2 p = a_children z' p := f1.2.2.2.2.2.2.1 52 p (by decide) (by decide) pz'.1 pz'.2
      refine ⟨⟨⟨by trivial, by trivial, by trivial⟩, ⟨by omega, by omega⟩, k1.trans f1, f2, f3, f4, by omega, by omega, by rw [w1, k7]; exact h7, by rw [w2, k8]; exact h8, fun ff => ?_⟩, m3⟩
      obtain ⟨q1, q2, q3, -⟩ := f5 ff
      have u3 := k2.2.2.1.2
      have u5 := k2.2.2.2.2.1.2
      refine ⟨k9.mono f1 pz' (fun w => by have := hl w; omega) u3, by omega, fun q a b => ?_, fun k ka kb kc => ?_⟩
      · by_cases c : q.toInt < nuP z'
        · obtain ⟨r1, r2⟩ := k10 q a c
          have qz : 0 ≤ q.toInt ∧ q.toInt < nuP z' := by omega
          have e : a_childAt s2 q = a_childAt z' q := f1.2.2.2.2.2.2.1 51 q (by decide) (by decide) qz.1 qz.2
          exact ⟨r1.mono f1 qz k2, by rw [e]; exact r2⟩
        · obtain ⟨r1, r2⟩ := q2 q (by omega) b
          exact ⟨r1, by omega⟩
      · by_cases c : k.toInt < i.toInt
        · exact (k11.mono f1 pz' u3 (by rw [k7, h7]; exact hH) (by rw [k7, h7]; omega) u5) k ka c kc
        · have ek : k = i := Int32.toInt_inj.mp (by omega)
          rw [w1, k7] at kc ⊢
          rw [ek] at kc ⊢
          have ce := f1.2.2.2.2.2.2.2.2.1 (a_childAt z p + i) (by omega) (by omega)
          rw [ce, k12 kc, ← k5]
          exact ⟨⟨by have := k2.2.1.1; omega, by show nuP z' < nuP s2; omega⟩, q3 (by rw [i32_le, c0]; omega)⟩
    rw [ok_B, ok_AI]
    refine ⟨pb, ?_⟩
    rw [e51, ok_C]
    refine ⟨fun d2 => ?_, fun d2 => ?_⟩
    · have c2 : (256 : Int32).toInt = 256 := rfl
      rw [i32_le, y, c2] at d2
      exact fin z h1 h2 h3 h4 rfl rfl rfl rfl hE hQ hK fun w => by omega
    · rw [ok_B, ok_AI]
      refine ⟨pb, ?_⟩
      rw [ok_B, ok_GI, ok_B, ok_SI]
      have c2 : (256 : Int32).toInt = 256 := rfl
      rw [i32_le, y, c2] at d2
      refine ⟨i32_in 256 rfl (by rw [e51, y]; omega), ?_⟩
      rw [e51]
      refine fin (sA z 54 0 (a_childAt z p + i) (gI z 23 0)) (cell_g h1 (by rw [y]; omega)) (cell_rd h2) h3 h4 rfl rfl (by simp only [a_childAt, gI_sI, gI_sL, gI_sA, gI_sB, gI_sAf, gI_sBf, gL_sI, gL_sL, gL_sA, gL_sB, gL_sAf, gL_sBf, gA_sI, gA_sL, gA_sA, gA_sB, gA_sAf, gA_sBf, gB_sI, gB_sL, gB_sA, gB_sB, gB_sAf, gB_sBf, Nat.reduceEqDiff, Nat.reduceMul, Nat.reduceAdd, false_and, true_and, and_true, and_false, if_true, if_false]) (by simp only [a_children, gI_sI, gI_sL, gI_sA, gI_sB, gI_sAf, gI_sBf, gL_sI, gL_sL, gL_sA, gL_sB, gL_sAf, gL_sBf, gA_sI, gA_sL, gA_sA, gA_sB, gA_sAf, gA_sBf, gB_sI, gB_sL, gB_sA, gB_sB, gB_sAf, gB_sBf, Nat.reduceEqDiff, Nat.reduceMul, Nat.reduceAdd, false_and, true_and, and_true, and_false, if_true, if_false]) (cell_e.mpr hE) (fun q a b => ?_) (cell_h hK fun k ka kb w => ?_) (fun _ => by simp only [gI_sI, gI_sL, gI_sA, gI_sB, gI_sAf, gI_sBf, gL_sI, gL_sL, gL_sA, gL_sB, gL_sAf, gL_sBf, gA_sI, gA_sL, gA_sA, gA_sB, gA_sAf, gA_sBf, gB_sI, gB_sL, gB_sA, gB_sB, gB_sAf, gB_sBf, Nat.reduceEqDiff, Nat.reduceMul, Nat.reduceAdd, false_and, true_and, and_true, and_false, if_true, if_false])
      · obtain ⟨r1, r2⟩ := hQ q a b
        refine ⟨cell_p r1 (by rw [y]; omega) b5.2, ?_⟩
        simp only [a_childAt, gI_sI, gI_sL, gI_sA, gI_sB, gI_sAf, gI_sBf, gL_sI, gL_sL, gL_sA, gL_sB, gL_sAf, gL_sBf, gA_sI, gA_sL, gA_sA, gA_sB, gA_sAf, gA_sBf, gB_sI, gB_sL, gB_sA, gB_sB, gB_sAf, gB_sBf, Nat.reduceEqDiff, Nat.reduceMul, Nat.reduceAdd, false_and, true_and, and_true, and_false, if_true, if_false]
        exact r2
      · have yk := tI_add (a := a_childAt z p) (b := k) (by omega)
        rw [w] at yk
        omega
  · rw [ok_R]
    exact hI.done hp hm.1 hH fun w => absurd w f
theorem pj410_ok (s0 z : S1) (rec : Int32 → Int32 → M Unit) (l1 l2 p : Int32) (HR : ∀ (s : S1) (q : Int32), Rd s → nuU s ≤ 60 * nuP s → nuH s ≤ 255 * nuP s → (0 ≤ q.toInt ∧ q.toInt < nuP s) → ok (rec q (l2 + 1)) s (fun _ s' => RdF q s s')) (hl : 0 ≤ l1 → 0 ≤ l1.toInt ∧ l1.toInt < nuP s0) (h : RdX s0 z p) (hE : f_fault z = 0 → RdE l1 z p) : ok (M_Mo_proto_j410 rec l2 p) z (fun _ s' => RdF l1 s0 s') := by
  unfold M_Mo_proto_j410
  rw [ok_B]
  refine ok_mono (q_number_ok z 1 (by decide) h.2.1.1) fun v s1 ⟨nb, aw, v1, _, _⟩ => ?_
  have x1 := h.nb nb aw
  have vb := v1 rfl
  rw [ok_B, ok_GI, ok_C]
  refine ⟨fun f => ?_, fun f => ?_⟩
  · obtain ⟨pb, pz⟩ := x1.pb
    have E1 : RdE l1 s1 p := by
      have e := hE (nb.2.2.2.2 f)
      exact e.mono nb.sx.1 (by have := h.pb.2; exact this) (fun w => by have := hl w; have := h.2.2.1; omega) h.2.1.2.2.1.2
    have x2 := x1.wr 52 v.toInt32 (by decide)
    have x3 := x2.wr 51 (gI s1 27 0) (by decide)
    have e27 : gI (sA s1 52 0 p v.toInt32) 27 0 = gI s1 27 0 := rfl
    have e27' : gI (sA (sA s1 52 0 p v.toInt32) 51 0 p (gI s1 27 0)) 27 0 = gI s1 27 0 := rfl
    rw [ok_B, ok_SI]
    refine ⟨pb, ?_⟩
    rw [ok_B, ok_GI, e27, ok_B, ok_SI]
    refine ⟨pb, ?_⟩
    rw [ok_B, ok_GI, e27', ok_B, ok_PI, ok_B]
    have E3 : RdE l1 (sA (sA s1 52 0 p v.toInt32) 51 0 p (gI s1 27 0)) p := by
      unfold RdE RdU at *
      simp only [nuU, nuK, nuC, f_upCount, f_constCount, f_codeCount, a_params, a_registers, a_upAt, a_upvalues, a_constAt, a_consts, a_codeAt, a_codes, gI_sI, gI_sL, gI_sA, gI_sB, gI_sAf, gI_sBf, gL_sI, gL_sL, gL_sA, gL_sB, gL_sAf, gL_sBf, gA_sI, gA_sL, gA_sA, gA_sB, gA_sAf, gA_sBf, gB_sI, gB_sL, gB_sA, gB_sB, gB_sAf, gB_sBf, Nat.reduceEqDiff, Nat.reduceMul, Nat.reduceAdd, false_and, true_and, and_true, and_false, if_true, if_false] at *
      exact E1
    have k1 : a_childAt (sA (sA s1 52 0 p v.toInt32) 51 0 p (gI s1 27 0)) p = gI s1 27 0 := by simp only [a_childAt, gI_sI, gI_sL, gI_sA, gI_sB, gI_sAf, gI_sBf, gL_sI, gL_sL, gL_sA, gL_sB, gL_sAf, gL_sBf, gA_sI, gA_sL, gA_sA, gA_sB, gA_sAf, gA_sBf, gB_sI, gB_sL, gB_sA, gB_sB, gB_sAf, gB_sBf, Nat.reduceEqDiff, Nat.reduceMul, Nat.reduceAdd, false_and, true_and, and_true, and_false, if_true, if_false]
    have k2 : a_children (sA (sA s1 52 0 p v.toInt32) 51 0 p (gI s1 27 0)) p = v.toInt32 := by simp only [a_children, gI_sI, gI_sL, gI_sA, gI_sB, gI_sAf, gI_sBf, gL_sI, gL_sL, gL_sA, gL_sB, gL_sAf, gL_sBf, gA_sI, gA_sL, gA_sA, gA_sB, gA_sAf, gA_sBf, gB_sI, gB_sL, gB_sA, gB_sB, gB_sAf, gB_sBf, Nat.reduceEqDiff, Nat.reduceMul, Nat.reduceAdd, false_and, true_and, and_true, and_false, if_true, if_false]
    have I3 : ∀ f i, gI (sA (sA s1 52 0 p v.toInt32) 51 0 p (gI s1 27 0)) f i = gI s1 f i := fun _ _ => rfl
    generalize sA (sA s1 52 0 p v.toInt32) 51 0 p (gI s1 27 0) = z3 at *
    obtain ⟨g, r, eP, ep, eU, eH, b1, b2⟩ := x3
    have n27 : (gI s1 27 0).toInt = nuH s0 := by
      rw [← eH]
      simp only [nuH, f_childCount, I3]
    have hr := r.2.2.2.2.1
    have y := tI_add (a := gI s1 27 0) (b := v.toInt32) (by omega)
    have A4 : ∀ a i j, gA (sI z3 27 0 (gI s1 27 0 + v.toInt32)) a i j = gA z3 a i j := fun _ _ _ => rfl
    have H4 : nuH (sI z3 27 0 (gI s1 27 0 + v.toInt32)) = nuH s0 + v.toInt32.toInt := by
      simp only [nuH, f_childCount, gI_sI, gI_sL, gI_sA, gI_sB, gI_sAf, gI_sBf, gL_sI, gL_sL, gL_sA, gL_sB, gL_sAf, gL_sBf, gA_sI, gA_sL, gA_sA, gA_sB, gA_sAf, gA_sBf, gB_sI, gB_sL, gB_sA, gB_sB, gB_sAf, gB_sBf, Nat.reduceEqDiff, Nat.reduceMul, Nat.reduceAdd, false_and, true_and, and_true, and_false, if_true, if_false]
      rw [y, n27]
    have C4 : nuP (sI z3 27 0 (gI s1 27 0 + v.toInt32)) = nuP z3 ∧ nuU (sI z3 27 0 (gI s1 27 0 + v.toInt32)) = nuU z3 ∧ nuK (sI z3 27 0 (gI s1 27 0 + v.toInt32)) = nuK z3 ∧ nuC (sI z3 27 0 (gI s1 27 0 + v.toInt32)) = nuC z3 := by
      simp only [nuP, nuU, nuK, nuC, f_protos, f_upCount, f_constCount, f_codeCount, gI_sI, gI_sL, gI_sA, gI_sB, gI_sAf, gI_sBf, gL_sI, gL_sL, gL_sA, gL_sB, gL_sAf, gL_sBf, gA_sI, gA_sL, gA_sA, gA_sB, gA_sAf, gA_sBf, gB_sI, gB_sL, gB_sA, gB_sB, gB_sAf, gB_sBf, Nat.reduceEqDiff, Nat.reduceMul, Nat.reduceAdd, false_and, true_and, and_true, and_false, if_true, if_false]
    have g4 : RdG s0 (sI z3 27 0 (gI s1 27 0 + v.toInt32)) := by
      obtain ⟨g1, g2, g3, g4, g5, g6, g7⟩ := g
      refine ⟨fun f i q => ?_, g2, g3, g4, fun w => ?_, ?_, g7⟩
      · have q1 : f ≠ 27 := by omega
        simp only [gI_sI, gI_sL, gI_sA, gI_sB, gI_sAf, gI_sBf, gL_sI, gL_sL, gL_sA, gL_sB, gL_sAf, gL_sBf, gA_sI, gA_sL, gA_sA, gA_sB, gA_sAf, gA_sBf, gB_sI, gB_sL, gB_sA, gB_sB, gB_sAf, gB_sBf, Nat.reduceEqDiff, Nat.reduceMul, Nat.reduceAdd, false_and, true_and, and_true, and_false, if_true, if_false, q1]
        exact g1 f i q
      · simp only [f_fault, gI_sI, gI_sL, gI_sA, gI_sB, gI_sAf, gI_sBf, gL_sI, gL_sL, gL_sA, gL_sB, gL_sAf, gL_sBf, gA_sI, gA_sL, gA_sA, gA_sB, gA_sAf, gA_sBf, gB_sI, gB_sL, gB_sA, gB_sB, gB_sAf, gB_sBf, Nat.reduceEqDiff, Nat.reduceMul, Nat.reduceAdd, false_and, true_and, and_true, and_false, if_true, if_false] at w
        exact g5 w
      · rw [H4, C4.1, C4.2.1, C4.2.2.1, C4.2.2.2]
        omega
    have r4 : Rd (sI z3 27 0 (gI s1 27 0 + v.toInt32)) := by
      obtain ⟨q1, q2, q3, q4, q5, q6⟩ := r
      refine ⟨?_, by rw [C4.1]; exact q2, by rw [C4.2.1]; exact q3, by rw [C4.2.2.1, C4.2.2.2]; exact q4, by rw [H4]; omega, fun j a b => ?_⟩
      · unfold Aw at *
        simp only [f_size, f_fault, f_at, gI_sI, gI_sL, gI_sA, gI_sB, gI_sAf, gI_sBf, gL_sI, gL_sL, gL_sA, gL_sB, gL_sAf, gL_sBf, gA_sI, gA_sL, gA_sA, gA_sB, gA_sAf, gA_sBf, gB_sI, gB_sL, gB_sA, gB_sB, gB_sAf, gB_sBf, Nat.reduceEqDiff, Nat.reduceMul, Nat.reduceAdd, false_and, true_and, and_true, and_false, if_true, if_false] at *
        exact q1
      · rw [C4.2.2.1] at b
        exact q6 j a b
    have E4 : RdE l1 (sI z3 27 0 (gI s1 27 0 + v.toInt32)) p := by
      unfold RdE RdU at *
      rw [C4.2.1, C4.2.2.1, C4.2.2.2]
      exact E3
    have ka : a_childAt (sI z3 27 0 (gI s1 27 0 + v.toInt32)) p = gI s1 27 0 := k1
    have kb : a_children (sI z3 27 0 (gI s1 27 0 + v.toInt32)) p = v.toInt32 := k2
    generalize sI z3 27 0 (gI s1 27 0 + v.toInt32) = z4 at *
    have hH0 : 0 ≤ nuH s0 := by rw [← eH]; exact hr.1
    refine ok_mono (ch458_ok s0 z4 rec l1 l2 p v.toInt32 HR ep b2 hH0 vb hl ⟨g4, r4, by omega, by omega, by omega, by omega, by rw [ka, n27], by rw [kb], fun _ => ⟨E4, by omega, fun q a b => by omega, fun k a b => by omega⟩⟩) fun _ s5 w => ?_
    rw [ok_R]
    exact w
  · rw [ok_R]
    exact x1.stop f
