/-! Reading: a prototype from its first byte. -/
def RdD (l1 : Int32) (z : S1) (p : Int32) : Prop := (0 ≤ (a_params z p).toInt ∧ (a_params z p).toInt ≤ (a_registers z p).toInt) ∧ (1 < (a_registers z p).toInt ∧ (a_registers z p).toInt < 251) ∧ (0 ≤ (a_upvalues z p).toInt ∧ (a_upvalues z p).toInt ≤ 60) ∧ (0 ≤ (a_upAt z p).toInt ∧ (a_upAt z p).toInt + (a_upvalues z p).toInt ≤ nuU z) ∧
  (0 ≤ l1 → ∀ j : Int32, 0 ≤ j.toInt → j.toInt < (a_upvalues z p).toInt → RdU z l1 (gA z 53 0 (a_upAt z p + j))) ∧ (l1 = -1 → (a_upvalues z p).toInt = 1)
theorem RdD.mono {s s' : S1} {l p : Int32} (h : RdD l s p) (g : RdG s s') (hA : ∀ a : Nat, 42 ≤ a → a ≤ 46 → gA s' a 0 p = gA s a 0 p) (hl : 0 ≤ l → 0 ≤ l.toInt ∧ l.toInt < nuP s) (hu : nuU s ≤ 30000) : RdD l s' p := by
  obtain ⟨h1, h2, h3, h4, h7, h8⟩ := h
  obtain ⟨-, m2, m3, m4, -⟩ := g.2.2.2.2.2.1
  unfold RdD
  simp only [a_params, a_registers, a_upvalues, a_upAt, hA 42 (by decide) (by decide), hA 44 (by decide) (by decide), hA 45 (by decide) (by decide), hA 46 (by decide) (by decide)] at *
  refine ⟨h1, h2, h3, ⟨h4.1, by omega⟩, fun l0 j j0 j1 => ?_, h8⟩
  have y := tI_add (a := gA s 46 0 p) (b := j) (by omega)
  rw [g.2.2.2.2.2.2.2.1 _ (by omega) (by omega)]
  exact (h7 l0 j j0 j1).mono g (hl l0)
theorem RdU.wr {z : S1} {a : Nat} {p q v x : Int32} (ha : a = 46 ∨ a = 47 ∨ a = 48 ∨ a = 49 ∨ a = 50) : RdU (sA z a 0 p v) q x ↔ RdU z q x := by
  unfold RdU
  rcases ha with e | e | e | e | e <;> subst e <;> simp only [a_upvalues, a_registers, gI_sI, gI_sL, gI_sA, gI_sB, gI_sAf, gI_sBf, gL_sI, gL_sL, gL_sA, gL_sB, gL_sAf, gL_sBf, gA_sI, gA_sL, gA_sA, gA_sB, gA_sAf, gA_sBf, gB_sI, gB_sL, gB_sA, gB_sB, gB_sAf, gB_sBf, Nat.reduceEqDiff, Nat.reduceMul, Nat.reduceAdd, false_and, true_and, and_true, and_false, if_true, if_false]
theorem RdD.wr {z : S1} {a : Nat} {l p v : Int32} (ha : a = 47 ∨ a = 48 ∨ a = 49 ∨ a = 50) (h : RdD l z p) : RdD l (sA z a 0 p v) p := by
  have u : ∀ x, RdU (sA z a 0 p v) l x ↔ RdU z l x := fun x => RdU.wr (by omega)
  unfold RdD at *
  simp only [u]
  rcases ha with e | e | e | e <;> subst e <;> simp only [nuU, f_upCount, a_params, a_registers, a_upvalues, a_upAt, gI_sI, gI_sL, gI_sA, gI_sB, gI_sAf, gI_sBf, gL_sI, gL_sL, gL_sA, gL_sB, gL_sAf, gL_sBf, gA_sI, gA_sL, gA_sA, gA_sB, gA_sAf, gA_sBf, gB_sI, gB_sL, gB_sA, gB_sB, gB_sAf, gB_sBf, Nat.reduceEqDiff, Nat.reduceMul, Nat.reduceAdd, false_and, true_and, and_true, and_false, if_true, if_false] at * <;> exact h
theorem up237_ok (s : S1) (rec : Int32 → Int32 → M Unit) (l1 l2 p : Int32) (h : Rd s) (hu : nuU s + 60 ≤ 30000) (hp : 0 ≤ p ∧ p < 251) (hv : 0 ≤ (a_upvalues s p).toInt ∧ (a_upvalues s p).toInt ≤ 60) (hl : 0 ≤ l1 → l1 < 251 ∧ 0 ≤ l1.toInt ∧ l1.toInt < nuP s) :
    ok (oW (M_Mo_proto_L237 rec) (l1, l2, p, 0)) s (fun y s' => y = (l2, p) ∧ RdS s s' ∧ Rd s' ∧ nuK s' = nuK s ∧ nuC s' = nuC s ∧ nuU s' ≤ nuU s + 60 ∧ (f_fault s' = 0 → nuU s' = nuU s + (a_upvalues s p).toInt ∧ (0 ≤ l1 → ∀ j : Int32, 0 ≤ j.toInt → j.toInt < (a_upvalues s p).toInt → RdU s' l1 (gA s' 53 0 (f_upCount s + j))))) := by
  have c0 : (0 : Int32).toInt = 0 := rfl
  refine ok_W (fun y z => (y.1 = l1 ∧ y.2.1 = l2 ∧ y.2.2.1 = p) ∧ (0 ≤ y.2.2.2.toInt ∧ y.2.2.2.toInt ≤ (a_upvalues s p).toInt) ∧ RdS s z ∧ Rd z ∧ nuK z = nuK s ∧ nuC z = nuC s ∧ nuU z ≤ nuU s + y.2.2.2.toInt ∧ (f_fault z = 0 → nuU z = nuU s + y.2.2.2.toInt ∧ (0 ≤ l1 → ∀ j : Int32, 0 ≤ j.toInt → j.toInt < y.2.2.2.toInt → RdU z l1 (gA z 53 0 (f_upCount s + j))))) (fun y _ => (a_upvalues s p - y.2.2.2).toNatClampNeg) ?_ (l1, l2, p, 0) s ⟨⟨rfl, rfl, rfl⟩, ⟨(show (0 : Int) ≤ (0 : Int32).toInt by decide), hv.1⟩, RdS.refl s, h, rfl, rfl, by show nuU s ≤ nuU s + (0 : Int32).toInt; rw [c0]; omega, fun _ => ⟨by show nuU s = nuU s + (0 : Int32).toInt; rw [c0]; omega, fun _ j a b => by have b' : j.toInt < (0 : Int32).toInt := b; rw [c0] at b'; omega⟩⟩
  rintro ⟨y1, y2, y3, i⟩ z ⟨⟨e1, e2, e3⟩, ⟨i0, i1⟩, sx, r, ek, ec, eu, hf⟩
  dsimp only at e1 e2 e3 i0 i1 eu hf
  rw [e1, e2, e3]
  have e45 : gA z 45 0 p = a_upvalues s p := sx.2.2.2 45 0 p (by decide)
  unfold M_Mo_proto_L237
  dsimp only
  rw [ok_B, ok_AI]
  refine ⟨hp, ?_⟩
  rw [e45, ok_C]
  refine ⟨fun d => ?_, fun d => ?_⟩
  · rw [ok_R]
    rw [i32_le] at d
    have ei : i.toInt = (a_upvalues s p).toInt := by omega
    rw [ei] at hf
    exact ⟨rfl, sx, r, ek, ec, by omega, hf⟩
  · obtain ⟨m1, m2, m3⟩ := lp_num (n := a_upvalues s p) (by omega) i0 d
    have eP : nuP z = nuP s := by
      have e := sx.2.1
      simp only [nuP, f_protos, e]
    rw [ok_B]
    refine ok_mono (upvalue_ok z l1 r (by omega) fun w => (hl w).1) fun _ s2 ⟨⟨q1, q2, q3, q4⟩, q5⟩ => ?_
    rw [ok_R]
    refine ⟨⟨⟨rfl, rfl, rfl⟩, ⟨?_, ?_⟩, sx.trans q1, q2, q4.1.trans ek, q4.2.trans ec, ?_, fun f => ?_⟩, m3⟩
    · show 0 ≤ (i + 1).toInt
      omega
    · show (i + 1).toInt ≤ _
      omega
    · show nuU s2 ≤ nuU s + (i + 1).toInt
      omega
    · show nuU s2 = nuU s + (i + 1).toInt ∧ (0 ≤ l1 → ∀ j : Int32, 0 ≤ j.toInt → j.toInt < (i + 1).toInt → RdU s2 l1 (gA s2 53 0 (f_upCount s + j)))
      obtain ⟨a1, a2⟩ := q5 f
      obtain ⟨b1, b2⟩ := hf (q1.1.2.2.2.2.1 f)
      refine ⟨by omega, fun l0 j j0 j1 => ?_⟩
      have us := h.2.2.1
      have y := tI_add (a := f_upCount s) (b := j) (by
        have : (f_upCount s).toInt = nuU s := rfl
        omega)
      have eU : (f_upCount s).toInt = nuU s := rfl
      by_cases c : j.toInt < i.toInt
      · rw [q1.1.2.2.2.2.2.2.2.1 _ (by omega) (by omega)]
        have hl' := hl l0
        exact (b2 l0 j j0 c).mono q1.1 (by omega)
      · have ej : f_upCount s + j = f_upCount z := Int32.toInt_inj.mp (by
          have : (f_upCount z).toInt = nuU z := rfl
          omega)
        rw [ej]
        exact a2 l0
theorem pj283_ok (s0 z : S1) (rec : Int32 → Int32 → M Unit) (l1 l2 p n k : Int32) (HR : ∀ (s : S1) (q : Int32), Rd s → nuU s ≤ 60 * nuP s → nuH s ≤ 255 * nuP s → (0 ≤ q.toInt ∧ q.toInt < nuP s) → ok (rec q (l2 + 1)) s (fun _ s' => RdF q s s')) (hl : 0 ≤ l1 → 0 ≤ l1.toInt ∧ l1.toInt < nuP s0) (h : RdX s0 z p) (hD : f_fault z = 0 → RdD l1 z p ∧ (0 ≤ (a_constAt z p).toInt ∧ 0 ≤ (a_consts z p).toInt ∧ (a_constAt z p).toInt + (a_consts z p).toInt ≤ nuK z)) (hn : n.toInt ≤ 65535) (hk : k = 0 ∨ 0 < n.toInt) : ok (M_Mo_proto_j283 rec l2 p n k) z (fun _ s' => RdF l1 s0 s') := by
  unfold M_Mo_proto_j283
  rw [ok_B]
  refine ok_mono (need_ok z k h.2.1.1) fun _ s1 ⟨nb, aw, e28, w⟩ => ?_
  have x1 := h.nb nb aw
  obtain ⟨pb, pz⟩ := x1.pb
  have x2 := x1.wr 49 (gI s1 26 0) (by decide)
  have x3 := x2.wr 50 n (by decide)
  rw [ok_B, ok_GI, ok_B, ok_SI]
  refine ⟨pb, ?_⟩
  rw [ok_B, ok_SI]
  refine ⟨pb, ?_⟩
  have D3 : f_fault s1 = 0 → RdD l1 (sA (sA s1 49 0 p (gI s1 26 0)) 50 0 p n) p ∧ (0 ≤ (a_constAt s1 p).toInt ∧ 0 ≤ (a_consts s1 p).toInt ∧ (a_constAt s1 p).toInt + (a_consts s1 p).toInt ≤ nuK s1) := fun f => by
    obtain ⟨d1, d2⟩ := hD (nb.2.2.2.2 f)
    refine ⟨((d1.mono nb.sx.1 (fun a _ _ => nb.2.2.1 a 0 p) (fun q => by have := hl q; have := h.2.2.1; omega) h.2.1.2.2.1.2).wr (by decide)).wr (by decide), ?_⟩
    simp only [a_constAt, a_consts, nuK, f_constCount, nb.2.2.1, nb.cn.2.2.1] at *
    exact d2
  have k1 : a_codeAt (sA (sA s1 49 0 p (gI s1 26 0)) 50 0 p n) p = gI s1 26 0 := by simp only [a_codeAt, gI_sI, gI_sL, gI_sA, gI_sB, gI_sAf, gI_sBf, gL_sI, gL_sL, gL_sA, gL_sB, gL_sAf, gL_sBf, gA_sI, gA_sL, gA_sA, gA_sB, gA_sAf, gA_sBf, gB_sI, gB_sL, gB_sA, gB_sB, gB_sAf, gB_sBf, Nat.reduceEqDiff, Nat.reduceMul, Nat.reduceAdd, false_and, true_and, and_true, and_false, if_true, if_false]
  have k2 : a_codes (sA (sA s1 49 0 p (gI s1 26 0)) 50 0 p n) p = n := by simp only [a_codes, gI_sI, gI_sL, gI_sA, gI_sB, gI_sAf, gI_sBf, gL_sI, gL_sL, gL_sA, gL_sB, gL_sAf, gL_sBf, gA_sI, gA_sL, gA_sA, gA_sB, gA_sAf, gA_sBf, gB_sI, gB_sL, gB_sA, gB_sB, gB_sAf, gB_sBf, Nat.reduceEqDiff, Nat.reduceMul, Nat.reduceAdd, false_and, true_and, and_true, and_false, if_true, if_false]
  have k3 : a_constAt (sA (sA s1 49 0 p (gI s1 26 0)) 50 0 p n) p = a_constAt s1 p := by simp only [a_constAt, gI_sI, gI_sL, gI_sA, gI_sB, gI_sAf, gI_sBf, gL_sI, gL_sL, gL_sA, gL_sB, gL_sAf, gL_sBf, gA_sI, gA_sL, gA_sA, gA_sB, gA_sAf, gA_sBf, gB_sI, gB_sL, gB_sA, gB_sB, gB_sAf, gB_sBf, Nat.reduceEqDiff, Nat.reduceMul, Nat.reduceAdd, false_and, true_and, and_true, and_false, if_true, if_false]
  have k4 : a_consts (sA (sA s1 49 0 p (gI s1 26 0)) 50 0 p n) p = a_consts s1 p := by simp only [a_consts, gI_sI, gI_sL, gI_sA, gI_sB, gI_sAf, gI_sBf, gL_sI, gL_sL, gL_sA, gL_sB, gL_sAf, gL_sBf, gA_sI, gA_sL, gA_sA, gA_sB, gA_sAf, gA_sBf, gB_sI, gB_sL, gB_sA, gB_sB, gB_sAf, gB_sBf, Nat.reduceEqDiff, Nat.reduceMul, Nat.reduceAdd, false_and, true_and, and_true, and_false, if_true, if_false]
  have I3 : ∀ f i, gI (sA (sA s1 49 0 p (gI s1 26 0)) 50 0 p n) f i = gI s1 f i := fun _ _ => rfl
  generalize sA (sA s1 49 0 p (gI s1 26 0)) 50 0 p n = z3 at *
  rw [ok_B]
  refine ok_mono (co307_ok z3 rec l2 p n x3.2.1 hn) fun y s4 ⟨ey, sx, r4, eu, ek, ec⟩ => ?_
  have x4 := x3.sx sx r4 (by rw [eu]; exact x3.2.2.2.2.1)
  have E4 : f_fault s4 = 0 → RdE l1 s4 p := fun f => by
    have f3 := sx.1.2.2.2.2.1 f
    have f1 : f_fault s1 = 0 := by
      have e : f_fault z3 = f_fault s1 := I3 3 0
      rw [← e]
      exact f3
    have n0 : 0 < n.toInt := by
      rcases hk with q | q
      · exact absurd q (w f1)
      · exact q
    obtain ⟨d1, d2⟩ := D3 f1
    have d3 := d1.mono sx.1 (fun a p1 p2 => sx.2.2.2 a 0 p (by omega)) (fun q => by have := hl q; have := x3.2.2.1; omega) x3.2.1.2.2.1.2
    obtain ⟨q1, q2, q3, q4, q5, q6⟩ := d3
    have e49 : a_codeAt s4 p = gI s1 26 0 := (sx.2.2.2 49 0 p (by decide)).trans k1
    have e50 : a_codes s4 p = n := (sx.2.2.2 50 0 p (by decide)).trans k2
    have e47 : a_constAt s4 p = a_constAt s1 p := (sx.2.2.2 47 0 p (by decide)).trans k3
    have e48 : a_consts s4 p = a_consts s1 p := (sx.2.2.2 48 0 p (by decide)).trans k4
    have eC := ec f (by omega)
    have c26 : (gI s1 26 0).toInt = nuC z3 := by simp only [nuC, f_codeCount, I3]
    have c25 : nuK z3 = nuK s1 := by simp only [nuK, f_constCount, I3]
    have b4 := x3.2.1.2.2.2.1
    refine ⟨q1, q2, q3, q4, ?_, ?_, q5, q6⟩
    · rw [e47, e48, ek, c25]
      exact d2
    · rw [e49, e50, eC, c26]
      exact ⟨by omega, n0, Int.le_refl _⟩
  rcases y with y | y
  · simp only [Sum.elim_inl] at ey ⊢
    rw [ey]
    exact pj410_ok s0 s4 rec l1 l2 p HR hl x4 E4
  · simp only [Sum.elim_inr] at ey ⊢
    rw [ey]
    exact pj410_ok s0 s4 rec l1 l2 p HR hl x4 E4
theorem pj213_ok (s0 z : S1) (rec : Int32 → Int32 → M Unit) (l1 l2 p k : Int32) (HR : ∀ (s : S1) (q : Int32), Rd s → nuU s ≤ 60 * nuP s → nuH s ≤ 255 * nuP s → (0 ≤ q.toInt ∧ q.toInt < nuP s) → ok (rec q (l2 + 1)) s (fun _ s' => RdF q s s')) (hl : 0 ≤ l1 → l1 < 251 ∧ 0 ≤ l1.toInt ∧ l1.toInt < nuP s0) (h : RdX s0 z p) (h0 : nuU z ≤ 60 * nuP s0) (hB : f_fault z = 0 → (0 ≤ (a_params z p).toInt ∧ (a_params z p).toInt ≤ (a_registers z p).toInt) ∧ (1 < (a_registers z p).toInt ∧ (a_registers z p).toInt < 251)) (hv : 0 ≤ (a_upvalues z p).toInt ∧ (k = 0 ∨ ((a_upvalues z p).toInt ≤ 60 ∧ (l1 = -1 → (a_upvalues z p).toInt = 1)))) : ok (M_Mo_proto_j213 rec l1 l2 p k) z (fun _ s' => RdF l1 s0 s') := by
  unfold M_Mo_proto_j213
  rw [ok_B]
  refine ok_mono (need_ok z k h.2.1.1) fun _ s1 ⟨nb, aw, e28, w⟩ => ?_
  have x1 := h.nb nb aw
  obtain ⟨pb, pz⟩ := x1.pb
  rw [ok_B, ok_GI, ok_C]
  refine ⟨fun f => ?_, fun f => ?_⟩
  · have B1 := hB (nb.2.2.2.2 f)
    have u60 : (a_upvalues z p).toInt ≤ 60 ∧ (l1 = -1 → (a_upvalues z p).toInt = 1) := by
      rcases hv.2 with q | q
      · exact absurd q (w f)
      · exact q
    have u0 : nuU s1 = nuU z := by simp only [nuU, f_upCount, nb.cn.2.1]
    have x2 := x1.wr 46 (gI s1 24 0) (by decide)
    rw [ok_B, ok_GI, ok_B, ok_SI]
    refine ⟨pb, ?_⟩
    have k1 : a_upAt (sA s1 46 0 p (gI s1 24 0)) p = gI s1 24 0 := by simp only [a_upAt, gI_sI, gI_sL, gI_sA, gI_sB, gI_sAf, gI_sBf, gL_sI, gL_sL, gL_sA, gL_sB, gL_sAf, gL_sBf, gA_sI, gA_sL, gA_sA, gA_sB, gA_sAf, gA_sBf, gB_sI, gB_sL, gB_sA, gB_sB, gB_sAf, gB_sBf, Nat.reduceEqDiff, Nat.reduceMul, Nat.reduceAdd, false_and, true_and, and_true, and_false, if_true, if_false]
    have k2 : a_upvalues (sA s1 46 0 p (gI s1 24 0)) p = a_upvalues z p := by
      simp only [a_upvalues, gI_sI, gI_sL, gI_sA, gI_sB, gI_sAf, gI_sBf, gL_sI, gL_sL, gL_sA, gL_sB, gL_sAf, gL_sBf, gA_sI, gA_sL, gA_sA, gA_sB, gA_sAf, gA_sBf, gB_sI, gB_sL, gB_sA, gB_sB, gB_sAf, gB_sBf, Nat.reduceEqDiff, Nat.reduceMul, Nat.reduceAdd, false_and, true_and, and_true, and_false, if_true, if_false]
      exact nb.2.2.1 45 0 p
    have k3 : a_params (sA s1 46 0 p (gI s1 24 0)) p = a_params z p := by
      simp only [a_params, gI_sI, gI_sL, gI_sA, gI_sB, gI_sAf, gI_sBf, gL_sI, gL_sL, gL_sA, gL_sB, gL_sAf, gL_sBf, gA_sI, gA_sL, gA_sA, gA_sB, gA_sAf, gA_sBf, gB_sI, gB_sL, gB_sA, gB_sB, gB_sAf, gB_sBf, Nat.reduceEqDiff, Nat.reduceMul, Nat.reduceAdd, false_and, true_and, and_true, and_false, if_true, if_false]
      exact nb.2.2.1 42 0 p
    have k4 : a_registers (sA s1 46 0 p (gI s1 24 0)) p = a_registers z p := by
      simp only [a_registers, gI_sI, gI_sL, gI_sA, gI_sB, gI_sAf, gI_sBf, gL_sI, gL_sL, gL_sA, gL_sB, gL_sAf, gL_sBf, gA_sI, gA_sL, gA_sA, gA_sB, gA_sAf, gA_sBf, gB_sI, gB_sL, gB_sA, gB_sB, gB_sAf, gB_sBf, Nat.reduceEqDiff, Nat.reduceMul, Nat.reduceAdd, false_and, true_and, and_true, and_false, if_true, if_false]
      exact nb.2.2.1 44 0 p
    have I2 : ∀ f i, gI (sA s1 46 0 p (gI s1 24 0)) f i = gI s1 f i := fun _ _ => rfl
    generalize sA s1 46 0 p (gI s1 24 0) = z2 at *
    have uz2 : nuU z2 = nuU s1 := by simp only [nuU, f_upCount, I2]
    have P0 := x2.2.2.1
    have P1 := x2.2.1.2.1
    rw [ok_B]
    refine ok_mono (up237_ok z2 rec l1 l2 p x2.2.1 (by omega) pb (by rw [k2]; omega) fun q => by have := hl q; exact ⟨this.1, this.2.1, by omega⟩) fun y s3 ⟨ey, sx, r3, ek, ec, eu, hf⟩ => ?_
    rw [ey]
    have x3 := x2.sx sx r3 (by omega)
    have D3 : f_fault s3 = 0 → RdD l1 s3 p := fun f3 => by
      obtain ⟨a1, a2⟩ := hf f3
      have e42 : a_params s3 p = a_params z p := (sx.2.2.2 42 0 p (by decide)).trans k3
      have e44 : a_registers s3 p = a_registers z p := (sx.2.2.2 44 0 p (by decide)).trans k4
      have e45 : a_upvalues s3 p = a_upvalues z p := (sx.2.2.2 45 0 p (by decide)).trans k2
      have e46 : a_upAt s3 p = gI s1 24 0 := (sx.2.2.2 46 0 p (by decide)).trans k1
      have e24 : f_upCount z2 = gI s1 24 0 := I2 24 0
      have n24 : (gI s1 24 0).toInt = nuU s1 := rfl
      have b3 := x1.2.1.2.2.1
      unfold RdD
      rw [e42, e44, e45, e46]
      rw [k2, e24] at a2
      rw [k2] at a1
      exact ⟨B1.1, B1.2, ⟨hv.1, u60.1⟩, ⟨by omega, by omega⟩, a2, u60.2⟩
    rw [ok_B]
    unfold M_Mo_readConstants
    simp only [ok_B, ok_R]
    refine ok_mono (q_number_ok s3 2 (by decide) r3.1) fun v s4 ⟨nb4, aw4, _, v2, _⟩ => ?_
    have vb := v2 rfl
    have x4 := x3.nb nb4 aw4
    have x5 := x4.wr 47 (gI s4 25 0) (by decide)
    have x6 := x5.wr 48 v.toInt32 (by decide)
    rw [ok_GI, ok_SI]
    refine ⟨pb, ?_⟩
    rw [ok_SI]
    refine ⟨pb, ?_⟩
    have D6 : f_fault s4 = 0 → RdD l1 (sA (sA s4 47 0 p (gI s4 25 0)) 48 0 p v.toInt32) p := fun f4 => (((D3 (nb4.2.2.2.2 f4)).mono nb4.sx.1 (fun a _ _ => nb4.2.2.1 a 0 p) (fun q => by have := hl q; have := x3.2.2.1; omega) r3.2.2.1.2).wr (by decide)).wr (by decide)
    have j1 : a_constAt (sA (sA s4 47 0 p (gI s4 25 0)) 48 0 p v.toInt32) p = gI s4 25 0 := by simp only [a_constAt, gI_sI, gI_sL, gI_sA, gI_sB, gI_sAf, gI_sBf, gL_sI, gL_sL, gL_sA, gL_sB, gL_sAf, gL_sBf, gA_sI, gA_sL, gA_sA, gA_sB, gA_sAf, gA_sBf, gB_sI, gB_sL, gB_sA, gB_sB, gB_sAf, gB_sBf, Nat.reduceEqDiff, Nat.reduceMul, Nat.reduceAdd, false_and, true_and, and_true, and_false, if_true, if_false]
    have j2 : a_consts (sA (sA s4 47 0 p (gI s4 25 0)) 48 0 p v.toInt32) p = v.toInt32 := by simp only [a_consts, gI_sI, gI_sL, gI_sA, gI_sB, gI_sAf, gI_sBf, gL_sI, gL_sL, gL_sA, gL_sB, gL_sAf, gL_sBf, gA_sI, gA_sL, gA_sA, gA_sB, gA_sAf, gA_sBf, gB_sI, gB_sL, gB_sA, gB_sB, gB_sAf, gB_sBf, Nat.reduceEqDiff, Nat.reduceMul, Nat.reduceAdd, false_and, true_and, and_true, and_false, if_true, if_false]
    have I6 : ∀ f i, gI (sA (sA s4 47 0 p (gI s4 25 0)) 48 0 p v.toInt32) f i = gI s4 f i := fun _ _ => rfl
    generalize sA (sA s4 47 0 p (gI s4 25 0)) 48 0 p v.toInt32 = z6 at *
    refine ok_mono (rc26_ok z6 v.toInt32 x6.2.1 vb) fun _ s7 ⟨sx7, r7, u7, c7, k7⟩ => ?_
    have x7 := x6.sx sx7 r7 (by rw [u7]; exact x6.2.2.2.2.1)
    have D7 : f_fault s7 = 0 → RdD l1 s7 p ∧ (0 ≤ (a_constAt s7 p).toInt ∧ 0 ≤ (a_consts s7 p).toInt ∧ (a_constAt s7 p).toInt + (a_consts s7 p).toInt ≤ nuK s7) := fun f7 => by
      have f6 := sx7.1.2.2.2.2.1 f7
      have f4 : f_fault s4 = 0 := by
        have e : f_fault z6 = f_fault s4 := I6 3 0
        rw [← e]
        exact f6
      refine ⟨(D6 f4).mono sx7.1 (fun a p1 p2 => sx7.2.2.2 a 0 p (by omega)) (fun q => by have := hl q; have := x6.2.2.1; omega) x6.2.1.2.2.1.2, ?_⟩
      have e47 : a_constAt s7 p = gI s4 25 0 := (sx7.2.2.2 47 0 p (by decide)).trans j1
      have e48 : a_consts s7 p = v.toInt32 := (sx7.2.2.2 48 0 p (by decide)).trans j2
      have n25 : (gI s4 25 0).toInt = nuK z6 := by simp only [nuK, f_constCount, I6]
      have kk := k7 f7
      have b4 := x6.2.1.2.2.2.1
      rw [e47, e48, n25]
      exact ⟨by omega, by omega, by omega⟩
    refine ok_mono (q_number_ok s7 2 (by decide) r7.1) fun v8 s8 ⟨nb8, aw8, _, v82, _⟩ => ?_
    have vb8 := v82 rfl
    have x8 := x7.nb nb8 aw8
    have D8 : f_fault s8 = 0 → RdD l1 s8 p ∧ (0 ≤ (a_constAt s8 p).toInt ∧ 0 ≤ (a_consts s8 p).toInt ∧ (a_constAt s8 p).toInt + (a_consts s8 p).toInt ≤ nuK s8) := fun f8 => by
      obtain ⟨d1, d2⟩ := D7 (nb8.2.2.2.2 f8)
      refine ⟨d1.mono nb8.sx.1 (fun a _ _ => nb8.2.2.1 a 0 p) (fun q => by have := hl q; have := x7.2.2.1; omega) r7.2.2.1.2, ?_⟩
      simp only [a_constAt, a_consts, nuK, f_constCount, nb8.2.2.1, nb8.cn.2.2.1] at *
      exact d2
    have c0 : (0 : Int32).toInt = 0 := rfl
    rw [ok_C]
    refine ⟨fun _ => pj283_ok s0 s8 rec l1 l2 p _ 0 HR (fun q => (hl q).2) x8 D8 vb8.2 (Or.inl rfl), fun d => pj283_ok s0 s8 rec l1 l2 p _ 1 HR (fun q => (hl q).2) x8 D8 vb8.2 (Or.inr ?_)⟩
    rw [i32_le, c0] at d
    omega
  · rw [ok_R]
    exact x1.stop f
theorem pj159_ok (s0 z : S1) (rec : Int32 → Int32 → M Unit) (l1 l2 p k : Int32) (HR : ∀ (s : S1) (q : Int32), Rd s → nuU s ≤ 60 * nuP s → nuH s ≤ 255 * nuP s → (0 ≤ q.toInt ∧ q.toInt < nuP s) → ok (rec q (l2 + 1)) s (fun _ s' => RdF q s s')) (hl : 0 ≤ l1 → l1 < 251 ∧ 0 ≤ l1.toInt ∧ l1.toInt < nuP s0) (h : RdX s0 z p) (h0 : nuU z ≤ 60 * nuP s0) (hB : k = 0 ∨ ((0 ≤ (a_params z p).toInt ∧ (a_params z p).toInt ≤ (a_registers z p).toInt) ∧ (1 < (a_registers z p).toInt ∧ (a_registers z p).toInt < 251))) : ok (M_Mo_proto_j159 rec l1 l2 p k) z (fun _ s' => RdF l1 s0 s') := by
  unfold M_Mo_proto_j159
  rw [ok_B]
  refine ok_mono (need_ok z k h.2.1.1) fun _ s1 ⟨nb, aw, e28, w⟩ => ?_
  have x1 := h.nb nb aw
  rw [ok_B]
  refine ok_mono (q_number_ok s1 1 (by decide) aw) fun v s2 ⟨nb2, aw2, v1, _, _⟩ => ?_
  have vb := v1 rfl
  have x2 := x1.nb nb2 aw2
  obtain ⟨pb, pz⟩ := x2.pb
  have nn := nb.trans nb2
  have x3 := x2.wr 45 v.toInt32 (by decide)
  rw [ok_B, ok_SI]
  refine ⟨pb, ?_⟩
  have k1 : gA (sA s2 45 0 p v.toInt32) 45 0 p = v.toInt32 := by simp only [gI_sI, gI_sL, gI_sA, gI_sB, gI_sAf, gI_sBf, gL_sI, gL_sL, gL_sA, gL_sB, gL_sAf, gL_sBf, gA_sI, gA_sL, gA_sA, gA_sB, gA_sAf, gA_sBf, gB_sI, gB_sL, gB_sA, gB_sB, gB_sAf, gB_sBf, Nat.reduceEqDiff, Nat.reduceMul, Nat.reduceAdd, false_and, true_and, and_true, and_false, if_true, if_false]
  have k3 : a_params (sA s2 45 0 p v.toInt32) p = a_params z p := by
    simp only [a_params, gI_sI, gI_sL, gI_sA, gI_sB, gI_sAf, gI_sBf, gL_sI, gL_sL, gL_sA, gL_sB, gL_sAf, gL_sBf, gA_sI, gA_sL, gA_sA, gA_sB, gA_sAf, gA_sBf, gB_sI, gB_sL, gB_sA, gB_sB, gB_sAf, gB_sBf, Nat.reduceEqDiff, Nat.reduceMul, Nat.reduceAdd, false_and, true_and, and_true, and_false, if_true, if_false]
    exact nn.2.2.1 42 0 p
  have k4 : a_registers (sA s2 45 0 p v.toInt32) p = a_registers z p := by
    simp only [a_registers, gI_sI, gI_sL, gI_sA, gI_sB, gI_sAf, gI_sBf, gL_sI, gL_sL, gL_sA, gL_sB, gL_sAf, gL_sBf, gA_sI, gA_sL, gA_sA, gA_sB, gA_sAf, gA_sBf, gB_sI, gB_sL, gB_sA, gB_sB, gB_sAf, gB_sBf, Nat.reduceEqDiff, Nat.reduceMul, Nat.reduceAdd, false_and, true_and, and_true, and_false, if_true, if_false]
    exact nn.2.2.1 44 0 p
  have I2 : ∀ f i, gI (sA s2 45 0 p v.toInt32) f i = gI s2 f i := fun _ _ => rfl
  generalize sA s2 45 0 p v.toInt32 = z3 at *
  have u3 : nuU z3 = nuU z := by
    simp only [nuU, f_upCount, I2]
    rw [nn.cn.2.1]
  have B3 : f_fault z3 = 0 → (0 ≤ (a_params z3 p).toInt ∧ (a_params z3 p).toInt ≤ (a_registers z3 p).toInt) ∧ (1 < (a_registers z3 p).toInt ∧ (a_registers z3 p).toInt < 251) := fun f => by
    have e : f_fault z3 = f_fault s2 := I2 3 0
    rw [e] at f
    have f1 := nb2.2.2.2.2 f
    rw [k3, k4]
    exact hB.resolve_left (w f1)
  have go : ∀ k', (k' = 0 ∨ ((a_upvalues z3 p).toInt ≤ 60 ∧ (l1 = -1 → (a_upvalues z3 p).toInt = 1))) → ok (M_Mo_proto_j213 rec l1 l2 p k') z3 (fun _ s' => RdF l1 s0 s') := fun k' hk => pj213_ok s0 z3 rec l1 l2 p k' HR hl x3 (by omega) B3 ⟨by show 0 ≤ (gA z3 45 0 p).toInt; rw [k1]; exact vb.1, hk⟩
  have c1 : (1 : Int32).toInt = 1 := rfl
  have c6 : (60 : Int32).toInt = 60 := rfl
  rw [ok_C]
  refine ⟨fun _ => ?_, fun nl => ?_⟩
  · rw [ok_B, ok_AI]
    refine ⟨pb, ?_⟩
    rw [ok_C]
    refine ⟨fun c => go 1 (Or.inr ?_), fun _ => go 0 (Or.inl rfl)⟩
    have c' : a_upvalues z3 p = 1 := c
    rw [c', c1]
    omega
  · rw [ok_B, ok_AI]
    refine ⟨pb, ?_⟩
    rw [ok_C]
    refine ⟨fun _ => go 0 (Or.inl rfl), fun c => go 1 (Or.inr ⟨?_, fun e => ?_⟩)⟩
    · have c' := Int32.not_lt.mp c
      rw [i32_le, c6] at c'
      exact c'
    · rw [e] at nl
      exact absurd (by decide) nl
theorem pj101_ok (s0 z : S1) (rec : Int32 → Int32 → M Unit) (l1 l2 p k : Int32) (HR : ∀ (s : S1) (q : Int32), Rd s → nuU s ≤ 60 * nuP s → nuH s ≤ 255 * nuP s → (0 ≤ q.toInt ∧ q.toInt < nuP s) → ok (rec q (l2 + 1)) s (fun _ s' => RdF q s s')) (hl : 0 ≤ l1 → l1 < 251 ∧ 0 ≤ l1.toInt ∧ l1.toInt < nuP s0) (h : RdX s0 z p) (h0 : nuU z ≤ 60 * nuP s0) (hB : 0 ≤ (a_params z p).toInt) : ok (M_Mo_proto_j101 rec l1 l2 p k) z (fun _ s' => RdF l1 s0 s') := by
  unfold M_Mo_proto_j101
  rw [ok_B]
  refine ok_mono (need_ok z k h.2.1.1) fun _ s1 ⟨nb, aw, e28, w⟩ => ?_
  have x1 := h.nb nb aw
  rw [ok_B]
  refine ok_mono (q_number_ok s1 1 (by decide) aw) fun v s2 ⟨nb2, aw2, v1, _, _⟩ => ?_
  have x2 := x1.nb nb2 aw2
  obtain ⟨pb, pz⟩ := x2.pb
  have nn := nb.trans nb2
  have x3 := x2.wr 44 v.toInt32 (by decide)
  rw [ok_B, ok_SI]
  refine ⟨pb, ?_⟩
  have k3 : a_params (sA s2 44 0 p v.toInt32) p = a_params z p := by
    simp only [a_params, gI_sI, gI_sL, gI_sA, gI_sB, gI_sAf, gI_sBf, gL_sI, gL_sL, gL_sA, gL_sB, gL_sAf, gL_sBf, gA_sI, gA_sL, gA_sA, gA_sB, gA_sAf, gA_sBf, gB_sI, gB_sL, gB_sA, gB_sB, gB_sAf, gB_sBf, Nat.reduceEqDiff, Nat.reduceMul, Nat.reduceAdd, false_and, true_and, and_true, and_false, if_true, if_false]
    exact nn.2.2.1 42 0 p
  have I2 : ∀ f i, gI (sA s2 44 0 p v.toInt32) f i = gI s2 f i := fun _ _ => rfl
  generalize sA s2 44 0 p v.toInt32 = z3 at *
  have u3 : nuU z3 = nuU z := by
    simp only [nuU, f_upCount, I2]
    rw [nn.cn.2.1]
  have bad : ok (M_Mo_proto_j158 rec l1 l2 p) z3 (fun _ s' => RdF l1 s0 s') := pj159_ok s0 z3 rec l1 l2 p 0 HR hl x3 (by omega) (Or.inl rfl)
  have c1 : (1 : Int32).toInt = 1 := rfl
  have c2 : (251 : Int32).toInt = 251 := rfl
  rw [ok_B, ok_AI]
  refine ⟨pb, ?_⟩
  rw [ok_C]
  refine ⟨fun _ => bad, fun d1 => ?_⟩
  rw [ok_B, ok_AI]
  refine ⟨pb, ?_⟩
  rw [ok_C]
  refine ⟨fun _ => bad, fun d2 => ?_⟩
  rw [ok_B, ok_AI]
  refine ⟨pb, ?_⟩
  rw [ok_B, ok_AI]
  refine ⟨pb, ?_⟩
  rw [ok_C]
  refine ⟨fun _ => bad, fun d3 => pj159_ok s0 z3 rec l1 l2 p 1 HR hl x3 (by omega) (Or.inr ?_)⟩
  rw [i32_le, c1] at d1
  rw [i32_le, c2] at d2
  rw [i32_lt] at d3
  have e44 : (gA z3 44 0 p).toInt = (a_registers z3 p).toInt := rfl
  have e42 : (gA z3 42 0 p).toInt = (a_params z3 p).toInt := rfl
  rw [← k3] at hB
  omega
theorem protoB_ok (s : S1) (rec : Int32 → Int32 → M Unit) (l1 l2 : Int32) (HR : l2.toInt ≤ 20 → ∀ (s : S1) (q : Int32), Rd s → nuU s ≤ 60 * nuP s → nuH s ≤ 255 * nuP s → (0 ≤ q.toInt ∧ q.toInt < nuP s) → ok (rec q (l2 + 1)) s (fun _ s' => RdF q s s')) (h : Rd s) (hU : nuU s ≤ 60 * nuP s) (hH : nuH s ≤ 255 * nuP s) (hl : 0 ≤ l1 → l1 < 251 ∧ 0 ≤ l1.toInt ∧ l1.toInt < nuP s) : ok (M_Mo_proto_body rec l1 l2) s (fun _ s' => RdF l1 s s') := by
  have stop : ∀ s', Nb s s' → Aw s' → f_fault s' ≠ 0 → RdF l1 s s' := fun s' nb aw f => by
    have r := h.nb nb aw
    obtain ⟨e1, e2, e3, e4, e5⟩ := nb.cn
    refine ⟨nb.sx.1, r, ?_, ?_, fun w => absurd w f⟩
    · simp only [nuU, nuP, f_upCount, f_protos, e1, e2] at *
      exact hU
    · simp only [nuH, nuP, f_childCount, f_protos, e1, e5] at *
      exact hH
  have bad : ok (M_Mo_proto_j24 rec) s (fun _ s' => RdF l1 s s') := by
    simp only [M_Mo_proto_j24, ok_B, ok_C, ok_R, ok_L, ok_K, ok_GI, ok_GL, ok_PI, ok_PL, ok_AI, ok_AL, ok_SI, ok_SL, ok_Pr, ok_CI, cmp_lt, cmp_le, cmp_gt, cmp_ge, cmp_eq, nar0, nar1, Sum.elim_inl, Sum.elim_inr]
    exact ok_mono (bad_ok s 3 _ (by decide) h.1) fun _ s' ⟨nb, aw, f, _⟩ => stop s' nb aw f
  unfold M_Mo_proto_body
  rw [ok_B, ok_GI, ok_C]
  refine ⟨fun f => ?_, fun f => by rw [ok_R]; exact stop s (Nb.refl s) h.1 f⟩
  rw [ok_B, ok_GI, ok_C]
  refine ⟨fun _ => bad, fun c => ?_⟩
  rw [ok_C]
  refine ⟨fun d => ?_, fun _ => bad⟩
  have c20 : (20 : Int32).toInt = 20 := rfl
  have c250 : (250 : Int32).toInt = 250 := rfl
  have c1 : (1 : Int32).toInt = 1 := rfl
  rw [i32_le, c20] at d
  have HR' := HR d
  have n23 : (gI s 23 0).toInt = nuP s := rfl
  have b1 := h.2.1
  have b3 := h.2.2.1
  have ne : nuP s ≠ 250 := fun e => c (Int32.toInt_inj.mp (by rw [n23, c250]; exact e))
  have y := tI_add (a := gI s 23 0) (b := 1) (by omega)
  rw [ok_B, ok_GI, ok_B, ok_PI]
  have P1 : nuP (sI s 23 0 (gI s 23 0 + 1)) = nuP s + 1 := by
    simp only [nuP, f_protos, gI_sI, gI_sL, gI_sA, gI_sB, gI_sAf, gI_sBf, gL_sI, gL_sL, gL_sA, gL_sB, gL_sAf, gL_sBf, gA_sI, gA_sL, gA_sA, gA_sB, gA_sAf, gA_sBf, gB_sI, gB_sL, gB_sA, gB_sB, gB_sAf, gB_sBf, Nat.reduceEqDiff, Nat.reduceMul, Nat.reduceAdd, false_and, true_and, and_true, and_false, if_true, if_false]
    rw [y, c1]
  have C1 : nuU (sI s 23 0 (gI s 23 0 + 1)) = nuU s ∧ nuK (sI s 23 0 (gI s 23 0 + 1)) = nuK s ∧ nuC (sI s 23 0 (gI s 23 0 + 1)) = nuC s ∧ nuH (sI s 23 0 (gI s 23 0 + 1)) = nuH s := by
    simp only [nuU, nuK, nuC, nuH, f_upCount, f_constCount, f_codeCount, f_childCount, gI_sI, gI_sL, gI_sA, gI_sB, gI_sAf, gI_sBf, gL_sI, gL_sL, gL_sA, gL_sB, gL_sAf, gL_sBf, gA_sI, gA_sL, gA_sA, gA_sB, gA_sAf, gA_sBf, gB_sI, gB_sL, gB_sA, gB_sB, gB_sAf, gB_sBf, Nat.reduceEqDiff, Nat.reduceMul, Nat.reduceAdd, false_and, true_and, and_true, and_false, if_true, if_false]
  have x0 : RdX s (sI s 23 0 (gI s 23 0 + 1)) (gI s 23 0) := by
    refine ⟨⟨fun g i q => ?_, fun _ _ => rfl, fun _ _ _ _ => rfl, fun _ _ _ _ => rfl, fun _ => f, ?_, fun _ _ _ _ _ _ => rfl, fun _ _ _ => rfl, fun _ _ _ => rfl, fun _ _ _ => rfl, fun _ _ _ => ⟨rfl, rfl, rfl⟩⟩, ⟨?_, by omega, by omega, by rw [C1.2.1, C1.2.2.1]; exact h.2.2.2.1, by rw [C1.2.2.2]; exact h.2.2.2.2.1, fun j a b => ?_⟩, P1, rfl, by omega, C1.2.2.2, hH, b1.1⟩
    · have q1 : g ≠ 23 := by omega
      simp only [gI_sI, gI_sL, gI_sA, gI_sB, gI_sAf, gI_sBf, gL_sI, gL_sL, gL_sA, gL_sB, gL_sAf, gL_sBf, gA_sI, gA_sL, gA_sA, gA_sB, gA_sAf, gA_sBf, gB_sI, gB_sL, gB_sA, gB_sB, gB_sAf, gB_sBf, Nat.reduceEqDiff, Nat.reduceMul, Nat.reduceAdd, false_and, true_and, and_true, and_false, if_true, if_false, q1]
    · rw [P1, C1.1, C1.2.1, C1.2.2.1, C1.2.2.2]
      omega
    · have w := h.1
      unfold Aw at *
      simp only [f_size, f_fault, f_at, gI_sI, gI_sL, gI_sA, gI_sB, gI_sAf, gI_sBf, gL_sI, gL_sL, gL_sA, gL_sB, gL_sAf, gL_sBf, gA_sI, gA_sL, gA_sA, gA_sB, gA_sAf, gA_sBf, gB_sI, gB_sL, gB_sA, gB_sB, gB_sAf, gB_sBf, Nat.reduceEqDiff, Nat.reduceMul, Nat.reduceAdd, false_and, true_and, and_true, and_false, if_true, if_false] at *
      exact w
    · rw [C1.2.1] at b
      exact h.2.2.2.2.2 j a b
  have U1 := C1.1
  generalize sI s 23 0 (gI s 23 0 + 1) = z0 at *
  generalize gI s 23 0 = p at *
  rw [ok_B]
  refine ok_mono (q_number_ok z0 1 (by decide) x0.2.1.1) fun v s1 ⟨nb1, aw1, v1, _, _⟩ => ?_
  have vb := v1 rfl
  have x1 := x0.nb nb1 aw1
  obtain ⟨pb, pz⟩ := x1.pb
  have x2 := x1.wr 42 v.toInt32 (by decide)
  rw [ok_B, ok_SI]
  refine ⟨pb, ?_⟩
  have k2 : gA (sA s1 42 0 p v.toInt32) 42 0 p = v.toInt32 := by simp only [gI_sI, gI_sL, gI_sA, gI_sB, gI_sAf, gI_sBf, gL_sI, gL_sL, gL_sA, gL_sB, gL_sAf, gL_sBf, gA_sI, gA_sL, gA_sA, gA_sB, gA_sAf, gA_sBf, gB_sI, gB_sL, gB_sA, gB_sB, gB_sAf, gB_sBf, Nat.reduceEqDiff, Nat.reduceMul, Nat.reduceAdd, false_and, true_and, and_true, and_false, if_true, if_false]
  have I2 : ∀ f i, gI (sA s1 42 0 p v.toInt32) f i = gI s1 f i := fun _ _ => rfl
  generalize sA s1 42 0 p v.toInt32 = z2 at *
  rw [ok_B]
  refine ok_mono (q_number_ok z2 1 (by decide) x2.2.1.1) fun v3 s3 ⟨nb3, aw3, _, _, _⟩ => ?_
  have x3 := x2.nb nb3 aw3
  have x4 := x3.wr 43 v3.toInt32 (by decide)
  rw [ok_B, ok_SI]
  refine ⟨pb, ?_⟩
  have k4 : a_params (sA s3 43 0 p v3.toInt32) p = v.toInt32 := by
    simp only [a_params, gI_sI, gI_sL, gI_sA, gI_sB, gI_sAf, gI_sBf, gL_sI, gL_sL, gL_sA, gL_sB, gL_sAf, gL_sBf, gA_sI, gA_sL, gA_sA, gA_sB, gA_sAf, gA_sBf, gB_sI, gB_sL, gB_sA, gB_sB, gB_sAf, gB_sBf, Nat.reduceEqDiff, Nat.reduceMul, Nat.reduceAdd, false_and, true_and, and_true, and_false, if_true, if_false]
    rw [nb3.2.2.1, k2]
  have I4 : ∀ f i, gI (sA s3 43 0 p v3.toInt32) f i = gI s3 f i := fun _ _ => rfl
  generalize sA s3 43 0 p v3.toInt32 = z4 at *
  have u4 : nuU z4 = nuU s := by
    simp only [nuU, f_upCount, I4]
    rw [nb3.cn.2.1, I2, nb1.cn.2.1]
    exact U1
  have go : ∀ k, ok (M_Mo_proto_j101 rec l1 l2 p k) z4 (fun _ s' => RdF l1 s s') := fun k => pj101_ok s z4 rec l1 l2 p k HR' hl x4 (by omega) (by rw [k4]; exact vb.1)
  rw [ok_B, ok_AI]
  refine ⟨pb, ?_⟩
  rw [ok_C]
  refine ⟨fun _ => go 0, fun _ => ?_⟩
  rw [ok_C]
  refine ⟨fun _ => go 1, fun _ => ?_⟩
  rw [ok_B, ok_AI]
  refine ⟨pb, ?_⟩
  rw [ok_C]
  exact ⟨fun _ => go 1, fun _ => go 0⟩
theorem q_proto_ok (d : Nat) : ∀ (s : S1) (l1 l2 : Int32), 22 ≤ d + l2.toInt → 1 ≤ l2.toInt → Rd s → nuU s ≤ 60 * nuP s → nuH s ≤ 255 * nuP s → (0 ≤ l1 → l1 < 251 ∧ 0 ≤ l1.toInt ∧ l1.toInt < nuP s) → l2.toInt ≤ 21 → ok (M_Mo_proto d l1 l2) s (fun _ s' => RdF l1 s s') := by
  induction d with
  | zero =>
    intro s l1 l2 a _ _ _ _ _ b
    omega
  | succ d ih =>
    intro s l1 l2 a b h hU hH hl c
    show ok (M_Mo_proto_body (M_Mo_proto d) l1 l2) s _
    refine protoB_ok s (M_Mo_proto d) l1 l2 (fun c2 z q r u1 u2 qb => ?_) h hU hH hl
    have c1 : (1 : Int32).toInt = 1 := rfl
    have y := tI_add (a := l2) (b := 1) (by omega)
    have rb := r.2.1
    exact ih z q (l2 + 1) (by omega) (by omega) r u1 u2 (fun _ => ⟨(i32_in 251 rfl (by omega)).2, qb⟩) (by omega)
