/-! Reading: a prototype and those in it. -/
abbrev zz (x : Int32) : Int := x.toInt
/-- what is known of a prototype whose inner ones are still to be read -/
def RdE (l1 : Int32) (z : S1) (p : Int32) : Prop := (0 ≤ (a_params z p).toInt ∧ (a_params z p).toInt ≤ (a_registers z p).toInt) ∧ (1 < (a_registers z p).toInt ∧ (a_registers z p).toInt < 251) ∧ (0 ≤ (a_upvalues z p).toInt ∧ (a_upvalues z p).toInt ≤ 60) ∧ (0 ≤ (a_upAt z p).toInt ∧ (a_upAt z p).toInt + (a_upvalues z p).toInt ≤ nuU z) ∧ (0 ≤ (a_constAt z p).toInt ∧ 0 ≤ (a_consts z p).toInt ∧ (a_constAt z p).toInt + (a_consts z p).toInt ≤ nuK z) ∧ (0 ≤ (a_codeAt z p).toInt ∧ 0 < (a_codes z p).toInt ∧ (a_codeAt z p).toInt + (a_codes z p).toInt ≤ nuC z) ∧
  (0 ≤ l1 → ∀ j : Int32, 0 ≤ j.toInt → j.toInt < (a_upvalues z p).toInt → RdU z l1 (gA z 53 0 (a_upAt z p + j))) ∧ (l1 = -1 → (a_upvalues z p).toInt = 1)
/-- the upvalues of c, where p makes it -/
def RdW (s : S1) (p c : Int32) : Prop := (0 ≤ (a_upAt s c).toInt ∧ 0 ≤ (a_upvalues s c).toInt ∧ (a_upAt s c).toInt + (a_upvalues s c).toInt ≤ nuU s) ∧ ∀ j : Int32, 0 ≤ j.toInt → j.toInt < (a_upvalues s c).toInt → RdU s p (gA s 53 0 (a_upAt s c + j))
def RdH (s : S1) (p : Int32) (m : Int) : Prop := ∀ k : Int32, 0 ≤ k.toInt → k.toInt < m → (a_childAt s p).toInt + k.toInt < 256 → (0 ≤ (gA s 54 0 (a_childAt s p + k)).toInt ∧ (gA s 54 0 (a_childAt s p + k)).toInt < nuP s) ∧ RdW s p (gA s 54 0 (a_childAt s p + k))
/-- a prototype that was read -/
def RdP (s : S1) (p : Int32) : Prop := RdE (-2) s p ∧ (0 ≤ (a_childAt s p).toInt ∧ 0 ≤ (a_children s p).toInt ∧ (a_childAt s p).toInt + (a_children s p).toInt ≤ nuH s) ∧ RdH s p (a_children s p).toInt
theorem RdU.mono {s s' : S1} {p x : Int32} (h : RdU s p x) (g : RdG s s') (hp : 0 ≤ p.toInt ∧ p.toInt < nuP s) : RdU s' p x := by
  have e5 : a_upvalues s' p = a_upvalues s p := g.2.2.2.2.2.2.1 45 p (by decide) (by decide) hp.1 hp.2
  have e4 : a_registers s' p = a_registers s p := g.2.2.2.2.2.2.1 44 p (by decide) (by decide) hp.1 hp.2
  unfold RdU at *
  rw [e5, e4]
  exact h
theorem RdE.mono {s s' : S1} {l p : Int32} (h : RdE l s p) (g : RdG s s') (hp : 0 ≤ p.toInt ∧ p.toInt < nuP s) (hl : 0 ≤ l → 0 ≤ l.toInt ∧ l.toInt < nuP s) (hu : nuU s ≤ 30000) : RdE l s' p := by
  have A : ∀ a : Nat, 42 ≤ a → a ≤ 52 → gA s' a 0 p = gA s a 0 p := fun a q r => g.2.2.2.2.2.2.1 a p q r hp.1 hp.2
  obtain ⟨h1, h2, h3, h4, h5, h6, h7, h8⟩ := h
  obtain ⟨-, m2, m3, m4, -⟩ := g.2.2.2.2.2.1
  unfold RdE
  simp only [a_params, a_registers, a_upvalues, a_upAt, a_constAt, a_consts, a_codeAt, a_codes, A 42 (by decide) (by decide), A 44 (by decide) (by decide), A 45 (by decide) (by decide), A 46 (by decide) (by decide), A 47 (by decide) (by decide), A 48 (by decide) (by decide), A 49 (by decide) (by decide), A 50 (by decide) (by decide)] at *
  refine ⟨h1, h2, h3, ⟨h4.1, by omega⟩, ⟨h5.1, h5.2.1, by omega⟩, ⟨h6.1, h6.2.1, by omega⟩, fun l0 j j0 j1 => ?_, h8⟩
  have y := tI_add (a := gA s 46 0 p) (b := j) (by omega)
  rw [g.2.2.2.2.2.2.2.1 _ (by omega) (by omega)]
  exact (h7 l0 j j0 j1).mono g (hl l0)
theorem RdW.mono {s s' : S1} {p c : Int32} (h : RdW s p c) (g : RdG s s') (hp : 0 ≤ p.toInt ∧ p.toInt < nuP s) (hc : 0 ≤ c.toInt ∧ c.toInt < nuP s) (hu : nuU s ≤ 30000) : RdW s' p c := by
  have e5 : a_upvalues s' c = a_upvalues s c := g.2.2.2.2.2.2.1 45 c (by decide) (by decide) hc.1 hc.2
  have e6 : a_upAt s' c = a_upAt s c := g.2.2.2.2.2.2.1 46 c (by decide) (by decide) hc.1 hc.2
  obtain ⟨-, m2, m3, m4, -⟩ := g.2.2.2.2.2.1
  obtain ⟨h1, h2⟩ := h
  unfold RdW
  rw [e5, e6]
  refine ⟨⟨h1.1, h1.2.1, by omega⟩, fun j j0 j1 => ?_⟩
  have y := tI_add (a := a_upAt s c) (b := j) (by omega)
  rw [g.2.2.2.2.2.2.2.1 _ (by omega) (by omega)]
  exact (h2 j j0 j1).mono g hp
theorem RdH.mono {s s' : S1} {p : Int32} {m : Int} (h : RdH s p m) (g : RdG s s') (hp : 0 ≤ p.toInt ∧ p.toInt < nuP s) (hu : nuU s ≤ 30000) (h0 : 0 ≤ (a_childAt s p).toInt) (hm : (a_childAt s p).toInt + m ≤ nuH s) (hh : nuH s ≤ 64000) : RdH s' p m := by
  have e1 : a_childAt s' p = a_childAt s p := g.2.2.2.2.2.2.1 51 p (by decide) (by decide) hp.1 hp.2
  obtain ⟨m1, m2, m3, m4, -⟩ := g.2.2.2.2.2.1
  intro k k0 k1 k2
  rw [e1] at k2 ⊢
  have y := tI_add (a := a_childAt s p) (b := k) (by omega)
  have e := g.2.2.2.2.2.2.2.2.1 (a_childAt s p + k) (by omega) (by omega)
  rw [e]
  obtain ⟨q1, q2⟩ := h k k0 k1 k2
  exact ⟨⟨q1.1, by omega⟩, q2.mono g hp q1 hu⟩
theorem RdP.mono {s s' : S1} {p : Int32} (h : RdP s p) (g : RdG s s') (hp : 0 ≤ p.toInt ∧ p.toInt < nuP s) (r : Rd s) : RdP s' p := by
  have e1 : a_childAt s' p = a_childAt s p := g.2.2.2.2.2.2.1 51 p (by decide) (by decide) hp.1 hp.2
  have e2 : a_children s' p = a_children s p := g.2.2.2.2.2.2.1 52 p (by decide) (by decide) hp.1 hp.2
  obtain ⟨-, -, -, -, m5⟩ := g.2.2.2.2.2.1
  obtain ⟨h1, h2, h3⟩ := h
  refine ⟨h1.mono g hp (fun z => absurd z (by decide)) r.2.2.1.2, ?_, ?_⟩
  · rw [e1, e2]
    exact ⟨h2.1, h2.2.1, by omega⟩
  · rw [e2]
    exact h3.mono g hp r.2.2.1.2 h2.1 h2.2.2 r.2.2.2.2.1.2
/-- what reading a prototype leaves -/
def RdF (l1 : Int32) (s s' : S1) : Prop := RdG s s' ∧ Rd s' ∧ nuU s' ≤ 60 * nuP s' ∧ nuH s' ≤ 255 * nuP s' ∧ (f_fault s' = 0 → nuP s' - nuP s = 1 + (nuH s' - nuH s) ∧ (∀ q : Int32, nuP s ≤ q.toInt → q.toInt < nuP s' → RdP s' q ∧ nuH s ≤ (a_childAt s' q).toInt) ∧ (0 ≤ l1 → RdW s' l1 (f_protos s)) ∧ (l1 = -1 → (a_upvalues s' (f_protos s)).toInt = 1))
/-- a prototype is being read: s0 is where it began, p is its number -/
def RdX (s0 z : S1) (p : Int32) : Prop := RdG s0 z ∧ Rd z ∧ nuP z = nuP s0 + 1 ∧ p = f_protos s0 ∧ nuU z ≤ 60 * nuP s0 + 60 ∧ nuH z = nuH s0 ∧ nuH s0 ≤ 255 * nuP s0 ∧ 0 ≤ nuP s0
theorem RdX.stop {s0 z : S1} {p l1 : Int32} (h : RdX s0 z p) (f : f_fault z ≠ 0) : RdF l1 s0 z := by
  obtain ⟨h1, h2, h3, h4, h5, h6, h7, h8⟩ := h
  exact ⟨h1, h2, by omega, by omega, fun w => absurd w f⟩
theorem RdX.nb {s0 z z' : S1} {p : Int32} (h : RdX s0 z p) (k : Nb z z') (a : Aw z') : RdX s0 z' p := by
  obtain ⟨h1, h2, h3, h4, h5, h6, h7, h8⟩ := h
  obtain ⟨e1, e2, e3, e4, e5⟩ := k.cn
  refine ⟨h1.trans k.sx.1, h2.nb k a, ?_, h4, ?_, ?_, h7, h8⟩
  · simp only [nuP, f_protos, e1] at *
    exact h3
  · simp only [nuU, nuP, f_upCount, e2] at *
    exact h5
  · simp only [nuH, f_childCount, e5] at *
    exact h6
theorem RdX.wr {s0 z : S1} {p : Int32} (h : RdX s0 z p) (a : Nat) (v : Int32) (ha : 42 ≤ a ∧ a ≤ 52) : RdX s0 (sA z a 0 p v) p := by
  obtain ⟨h1, h2, h3, h4, h5, h6, h7, h8⟩ := h
  have pe : p.toInt = nuP s0 := by rw [h4]
  obtain ⟨g1, g2, g3, g4, g5, g6, g7, g8, g9, g10, g11⟩ := h1
  refine ⟨⟨g1, g2, fun b i j q => ?_, g4, g5, g6, fun b j q r t u => ?_, fun j q r => ?_, fun j q r => ?_, fun j q r => ?_, fun j q r => ⟨?_, (g11 j q r).2.1, ?_⟩⟩, ?_, h3, h4, h5, h6, h7, h8⟩
  · have q1 : b ≠ a := by omega
    simp only [gI_sI, gI_sL, gI_sA, gI_sB, gI_sAf, gI_sBf, gL_sI, gL_sL, gL_sA, gL_sB, gL_sAf, gL_sBf, gA_sI, gA_sL, gA_sA, gA_sB, gA_sAf, gA_sBf, gB_sI, gB_sL, gB_sA, gB_sB, gB_sAf, gB_sBf, Nat.reduceEqDiff, Nat.reduceMul, Nat.reduceAdd, false_and, true_and, and_true, and_false, if_true, if_false, q1]
    exact g3 b i j q
  · have q1 : j ≠ p := fun w => by
      rw [w, pe] at u
      omega
    simp only [gI_sI, gI_sL, gI_sA, gI_sB, gI_sAf, gI_sBf, gL_sI, gL_sL, gL_sA, gL_sB, gL_sAf, gL_sBf, gA_sI, gA_sL, gA_sA, gA_sB, gA_sAf, gA_sBf, gB_sI, gB_sL, gB_sA, gB_sB, gB_sAf, gB_sBf, Nat.reduceEqDiff, Nat.reduceMul, Nat.reduceAdd, false_and, true_and, and_true, and_false, if_true, if_false, q1]
    exact g7 b j q r t u
  · have q1 : ¬ 53 = a := by omega
    simp only [gI_sI, gI_sL, gI_sA, gI_sB, gI_sAf, gI_sBf, gL_sI, gL_sL, gL_sA, gL_sB, gL_sAf, gL_sBf, gA_sI, gA_sL, gA_sA, gA_sB, gA_sAf, gA_sBf, gB_sI, gB_sL, gB_sA, gB_sB, gB_sAf, gB_sBf, Nat.reduceEqDiff, Nat.reduceMul, Nat.reduceAdd, false_and, true_and, and_true, and_false, if_true, if_false, q1]
    exact g8 j q r
  · have q1 : ¬ 54 = a := by omega
    simp only [gI_sI, gI_sL, gI_sA, gI_sB, gI_sAf, gI_sBf, gL_sI, gL_sL, gL_sA, gL_sB, gL_sAf, gL_sBf, gA_sI, gA_sL, gA_sA, gA_sB, gA_sAf, gA_sBf, gB_sI, gB_sL, gB_sA, gB_sB, gB_sAf, gB_sBf, Nat.reduceEqDiff, Nat.reduceMul, Nat.reduceAdd, false_and, true_and, and_true, and_false, if_true, if_false, q1]
    exact g9 j q r
  · have q1 : ¬ 55 = a := by omega
    simp only [gI_sI, gI_sL, gI_sA, gI_sB, gI_sAf, gI_sBf, gL_sI, gL_sL, gL_sA, gL_sB, gL_sAf, gL_sBf, gA_sI, gA_sL, gA_sA, gA_sB, gA_sAf, gA_sBf, gB_sI, gB_sL, gB_sA, gB_sB, gB_sAf, gB_sBf, Nat.reduceEqDiff, Nat.reduceMul, Nat.reduceAdd, false_and, true_and, and_true, and_false, if_true, if_false, q1]
    exact g10 j q r
  · have q1 : ¬ 2 = a := by omega
    simp only [gI_sI, gI_sL, gI_sA, gI_sB, gI_sAf, gI_sBf, gL_sI, gL_sL, gL_sA, gL_sB, gL_sAf, gL_sBf, gA_sI, gA_sL, gA_sA, gA_sB, gA_sAf, gA_sBf, gB_sI, gB_sL, gB_sA, gB_sB, gB_sAf, gB_sBf, Nat.reduceEqDiff, Nat.reduceMul, Nat.reduceAdd, false_and, true_and, and_true, and_false, if_true, if_false, q1]
    exact (g11 j q r).1
  · have q1 : ¬ 57 = a := by omega
    simp only [gI_sI, gI_sL, gI_sA, gI_sB, gI_sAf, gI_sBf, gL_sI, gL_sL, gL_sA, gL_sB, gL_sAf, gL_sBf, gA_sI, gA_sL, gA_sA, gA_sB, gA_sAf, gA_sBf, gB_sI, gB_sL, gB_sA, gB_sB, gB_sAf, gB_sBf, Nat.reduceEqDiff, Nat.reduceMul, Nat.reduceAdd, false_and, true_and, and_true, and_false, if_true, if_false, q1]
    exact (g11 j q r).2.2
  · obtain ⟨r1, r2, r3, r4, r5, r6⟩ := h2
    refine ⟨r1, r2, r3, r4, r5, fun j q r => ?_⟩
    have w := r6 j q r
    have q1 : ¬ 2 = a := by omega
    have q2 : ¬ 57 = a := by omega
    simp only [v_constants_k, v_constants_v, a_constText, gI_sI, gI_sL, gI_sA, gI_sB, gI_sAf, gI_sBf, gL_sI, gL_sL, gL_sA, gL_sB, gL_sAf, gL_sBf, gA_sI, gA_sL, gA_sA, gA_sB, gA_sAf, gA_sBf, gB_sI, gB_sL, gB_sA, gB_sB, gB_sAf, gB_sBf, Nat.reduceEqDiff, Nat.reduceMul, Nat.reduceAdd, false_and, true_and, and_true, and_false, if_true, if_false, q1, q2] at *
    exact w
theorem RdX.sx {s0 z z' : S1} {p : Int32} (h : RdX s0 z p) (k : RdS z z') (r : Rd z') (u : nuU z' ≤ 60 * nuP s0 + 60) : RdX s0 z' p := by
  obtain ⟨h1, h2, h3, h4, h5, h6, h7, h8⟩ := h
  refine ⟨h1.trans k.1, r, ?_, h4, u, ?_, h7, h8⟩
  · have e := k.2.1
    simp only [nuP, f_protos, e] at *
    exact h3
  · have e := k.2.2.1
    simp only [nuH, f_childCount, e] at *
    exact h6
theorem RdX.pb {s0 z : S1} {p : Int32} (h : RdX s0 z p) : (0 ≤ p ∧ p < 251) ∧ 0 ≤ p.toInt ∧ p.toInt < nuP z := by
  obtain ⟨h1, h2, h3, h4, h5, h6, h7, h8⟩ := h
  have pe : p.toInt = nuP s0 := by rw [h4]
  have b := h2.2.1
  exact ⟨i32_in 251 rfl (by omega), by omega, by omega⟩
