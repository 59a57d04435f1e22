/-! The class: closeUp, with another tally in mind. -/
def rp (w t : S1) : S1 := sAf t 114 0 (fun j => gA w 114 0 j)
theorem rp_I (w t : S1) (f : Nat) (j : Int32) : gI (rp w t) f j = gI t f j := rfl
theorem rp_L (w t : S1) (f : Nat) (j : Int32) : gL (rp w t) f j = gL t f j := rfl
theorem rp_B (w t : S1) (a : Nat) (j k : Int32) : gB (rp w t) a j k = gB t a j k := rfl
theorem rp_A (w t : S1) (a : Nat) (j k : Int32) (h : a ≠ 114) : gA (rp w t) a j k = gA t a j k := by
  unfold rp
  rw [gA_sAf, if_neg (fun z => h z.1)]
theorem rp_T (w t : S1) (k : Int32) : cTl (rp w t) k = cTl w k := by
  unfold rp cTl
  rw [gA_sAf, if_pos ⟨rfl, rfl⟩]
theorem rp_N (w t : S1) (j k : Int32) (h : j ≠ 0) : gA (rp w t) 114 j k = gA t 114 j k := by
  unfold rp
  rw [gA_sAf, if_neg (fun z => h z.2)]
def cuP (w s u : S1) : Prop := cuQ (rp w s) (rp w u) ∧ ∀ j k, gA u 114 j k = gA s 114 j k
theorem closeUp_ok {w s : S1} (H : cHI (rp w s)) : ok M_Ta_closeUp s (fun _ u => cuP w s u) := by
  have e0 : (0 : Int32).toInt = 0 := rfl
  have e1 : (1 : Int32).toInt = 1 := rfl
  have e5 : (50000 : Int32).toInt = 50000 := rfl
  obtain ⟨S, W, hp⟩ := H.2.2.2.2.2
  have hp' := hp
  obtain ⟨p1, ⟨p2, p2'⟩, p3, p4, p5, p6, p7⟩ := hp'
  have hT : (cTop (rp w s)).toInt = (cTop s).toInt := rfl
  have s0 : S 0 ∨ (0 : Int32) = cTop (rp w s) := by
    by_cases q : 0 < (cTop (rp w s)).toInt
    · exact .inl (p2' q)
    · exact .inr (toInt_inj (by omega))
  simp only [M_Ta_closeUp, M_Ta_closeUp_j187, ok_B, ok_C, ok_R, ok_L, ok_K, ok_GI, ok_GL, ok_PI, ok_PL, ok_AI, ok_AL, ok_SI, ok_SL, ok_CI, cmp_lt, cmp_le, cmp_gt, cmp_ge, cmp_eq, nar0, nar1, Sum.elim_inl, Sum.elim_inr, ok_PzT, ok_PzC, ok_PzP, ok_PrC, ok_PrP, ok_PrF, ok_PrN, ok_Ln, ok_CL, ok_Nw, ok_S, ok_Ks, ok_Nz]
  refine ok_mono (P := fun (e : Int32) t => (∃ fr : Int32, fr.toInt = (cTop (rp w s)).toInt ∧ e.toInt = W (cTop (rp w s)) ∧ cCu (rp w s) W fr (rp w t)) ∧ ∀ j k, gA t 114 j k = gA s 114 j k) (ok_W (fun y t => (S y.2.1 ∨ y.2.1 = cTop (rp w s)) ∧ y.1.toInt = W y.2.1 ∧ (0 ≤ y.2.2.toInt ∧ y.2.2.toInt ≤ y.2.1.toInt) ∧ cCu (rp w s) W y.2.1 (rp w t) ∧ ∀ j k, gA t 114 j k = gA s 114 j k) (fun y _ => ((cTop (rp w s)).toInt - y.2.1.toInt).toNat) ?_ (0, 0, 0) s ⟨s0, ?_, ⟨by decide, by decide⟩, ?_, fun _ _ => rfl⟩) ?_
  · rintro ⟨to, fr, n⟩ t ⟨hfr, eto, ⟨n0, n1⟩, hc, h114⟩
    dsimp only at hfr eto n0 n1 hc h114
    have done : (cTop (rp w s)).toInt ≤ fr.toInt → (∃ fr : Int32, fr.toInt = (cTop (rp w s)).toInt ∧ to.toInt = W (cTop (rp w s)) ∧ cCu (rp w s) W fr (rp w t)) ∧ ∀ j k, gA t 114 j k = gA s 114 j k := fun q => by
      rcases hfr with z | z
      · have := (p3 fr z).1
        omega
      · exact ⟨⟨fr, by rw [z], by rw [← z]; exact eto, hc⟩, h114⟩
    have wf : 0 ≤ W fr ∧ W fr ≤ fr.toInt := by
      have l : 0 ≤ fr.toInt := by omega
      have := p7 0 fr s0 hfr (by omega)
      omega
    have tt : gI t 15367 0 = cTop (rp w s) := hc.1 15367 0 (by decide)
    simp only [M_Ta_closeUp_L6, M_Ta_closeUp_j52, M_Ta_closeUp_j176, ok_B, ok_C, ok_R, ok_L, ok_K, ok_GI, ok_GL, ok_PI, ok_PL, ok_AI, ok_AL, ok_SI, ok_SL, ok_CI, cmp_lt, cmp_le, cmp_gt, cmp_ge, cmp_eq, nar0, nar1, Sum.elim_inl, Sum.elim_inr, ok_PzT, ok_PzC, ok_PzP, ok_PrC, ok_PrP, ok_PrF, ok_PrN, ok_Ln, ok_CL, ok_Nw, ok_S, ok_Ks, ok_Nz]
    refine ⟨fun q => done ?_, fun q => ⟨fun q' => done ?_, fun q' => ?_⟩⟩
    · rw [i32_le] at q
      omega
    · rw [tt, i32_le] at q'
      exact q'
    · rw [tt, i32_le] at q'
      have sf : S fr := by
        rcases hfr with z | z
        · exact z
        · rw [z] at q'
          omega
      obtain ⟨⟨a1, a2, a3⟩, a4, a5⟩ := p3 fr sf
      have ow : gA t 127 0 fr = cOw (rp w s) fr := by
        have := (hc.2.2.2.2.1 fr (Int.le_refl _)).2
        rw [← this]
        exact (rp_A w t 127 0 fr (by decide)).symm
      have en : (n + 1).toInt = n.toInt + 1 := by rw [ktI_add] <;> omega
      have nx : ∀ fr' : Int32, fr'.toInt = fr.toInt + sz (rp w s) fr → S fr' ∨ fr' = cTop (rp w s) := fun fr' e => by
        by_cases g : fr'.toInt < (cTop (rp w s)).toInt
        · exact .inl ((a4 fr' e).1 g)
        · exact .inr (toInt_inj (by omega))
      refine ⟨⟨by rw [i32_le]; omega, by rw [i32_lt]; omega⟩, fun o => ?_, fun o => ?_⟩
      · rw [ow] at o ⊢
        have z := a5 o
        have o' := o
        rw [i32_le] at o'
        have hz := H.1.2 _ z.1.1.1 z.1.1.2
        have er : gI t 18572 (cOw (rp w s) fr) = cR (rp w s) (cOw (rp w s) fr) := hc.1 18572 _ (by decide)
        rw [er]
        have esz : sz (rp w s) fr = (cR (rp w s) (cOw (rp w s) fr)).toInt := by
          unfold sz
          rw [if_neg (fun q => by rw [i32_lt] at q; omega)]
        have ptO : pT t (cOw (rp w s) fr) := ⟨hz.1, (hc.1 18687 _ (by decide)).trans hz.2⟩
        refine ⟨ptO, fun q => absurd o (by rw [i32_le]; rw [i32_lt] at q; omega), fun _ => ?_⟩
        generalize eo : cOw (rp w s) fr = o1 at *
        generalize eR : cR (rp w s) o1 = rm at *
        have cc : 0 ≤ fr ∧ 0 ≤ to ∧ 0 ≤ rm ∧ fr ≤ 50000 ∧ rm ≤ 50000 - fr ∧ to ≤ 50000 ∧ rm ≤ 50000 - to := by
          have s1 : ((50000 : Int32) - fr).toInt = 50000 - fr.toInt := by rw [ktI_sub] <;> omega
          have s2 : ((50000 : Int32) - to).toInt = 50000 - to.toInt := by rw [ktI_sub] <;> omega
          rw [i32_le, i32_le, i32_le, i32_le, i32_le, i32_le, i32_le, s1, s2]
          omega
        have lto : 0 ≤ to ∧ to < 50000 := by
          rw [i32_le, i32_lt]
          omega
        refine ⟨cc, cc, cc, cc, cc, cc, lto, ptO, ?_⟩
        have ef : (fr + rm).toInt = fr.toInt + sz (rp w s) fr := by
          rw [esz, ktI_add] <;> omega
        have et : (to + rm).toInt = to.toInt + rm.toInt := by rw [ktI_add] <;> omega
        have key : ∀ T : S1, (∀ f j, gI T f j = if f = 18571 ∧ j = o1 then to else gI t f j) → (∀ f j, gL T f j = gL t f j) → (∀ a j k, rlA a → gA T a j k = gA t a j k) → (∀ a j k, a ≠ 122 ∧ a ≠ 124 → gB T a j k = gB t a j k) → (∀ k, cOw T k = if k = to then o1 else cOw t k) → (∀ k, sm6 T t k (if to ≤ k ∧ k < to + rm then fr + (k - to) else k)) →
            ((S (fr + rm) ∨ fr + rm = cTop (rp w s)) ∧ (to + rm).toInt = W (fr + rm) ∧ (0 ≤ (n + 1).toInt ∧ (n + 1).toInt ≤ (fr + rm).toInt) ∧ cCu (rp w s) W (fr + rm) (rp w T) ∧ ∀ j k, gA T 114 j k = gA s 114 j k) ∧ ((cTop (rp w s)).toInt - (fr + rm).toInt).toNat < ((cTop (rp w s)).toInt - fr.toInt).toNat := fun T TI TL TA TB TO T6 => by
          refine ⟨⟨nx _ ef, ?_, ⟨by omega, by omega⟩, cu_move hp (o := o1) (to := to) sf ef (by rw [eo]; exact o) eo.symm eto wf hc TI TL (fun a j k q => ?_) TB (fun k => ?_) (fun k => ?_), fun j k => (TA _ _ _ (by unfold rlA; decide)).trans (h114 j k)⟩, by omega⟩
          · have := (a4 _ ef).2
            rw [if_neg (fun q => by rw [i32_lt] at q; omega)] at this
            omega
          · by_cases g : a = 114
            · subst g
              by_cases g' : j = 0
              · subst g'
                exact (rp_T w T k).trans (rp_T w t k).symm
              · rw [rp_N _ _ _ _ g', rp_N _ _ _ _ g']
                exact TA _ _ _ q
            · rw [rp_A _ _ _ _ _ g, rp_A _ _ _ _ _ g]
              exact TA _ _ _ q
          · rw [show cOw (rp w T) k = cOw T k from rp_A _ _ _ _ _ (by decide), show cOw (rp w t) k = cOw t k from rp_A _ _ _ _ _ (by decide)]
            exact TO k
          · have b := T6 k
            have ec : (to ≤ k ∧ k < to + rm) ↔ (to.toInt ≤ k.toInt ∧ k.toInt < to.toInt + sz (rp w s) fr) := by
              rw [i32_le, i32_lt, et, esz]
            simp only [ec] at b
            obtain ⟨b1, b2, b3, b4, b5, b6⟩ := b
            refine ⟨?_, b2, ?_, b4, ?_, ?_⟩
            · exact (rp_A _ _ _ _ _ (by decide)).trans (b1.trans (rp_A _ _ _ _ _ (by decide)).symm)
            · exact (rp_A _ _ _ _ _ (by decide)).trans (b3.trans (rp_A _ _ _ _ _ (by decide)).symm)
            · exact (rp_A _ _ _ _ _ (by decide)).trans (b5.trans (rp_A _ _ _ _ _ (by decide)).symm)
            · exact (rp_A _ _ _ _ _ (by decide)).trans (b6.trans (rp_A _ _ _ _ _ (by decide)).symm)
        refine key _ (fun f j => ?_) (fun _ _ => rfl) (fun a j k q => ?_) (fun a j k q => ?_) (fun k => ?_) (fun k => ?_)
        · simp only [gI_sI, gI_sL, gI_sA, gI_sB, gI_sAf, gI_sBf, gL_sI, gL_sL, gL_sA, gL_sB, gL_sAf, gL_sBf, gA_sI, gA_sL, gA_sA, gA_sB, gA_sAf, gA_sBf, gB_sI, gB_sL, gB_sA, gB_sB, gB_sAf, gB_sBf, Nat.reduceEqDiff, Nat.reduceMul, Nat.reduceAdd, false_and, true_and, and_true, and_false, if_true, if_false]
        · obtain ⟨q1, q2, q3, q4, q5⟩ := q
          simp only [gI_sI, gI_sL, gI_sA, gI_sB, gI_sAf, gI_sBf, gL_sI, gL_sL, gL_sA, gL_sB, gL_sAf, gL_sBf, gA_sI, gA_sL, gA_sA, gA_sB, gA_sAf, gA_sBf, gB_sI, gB_sL, gB_sA, gB_sB, gB_sAf, gB_sBf, Nat.reduceEqDiff, Nat.reduceMul, Nat.reduceAdd, false_and, true_and, and_true, and_false, if_true, if_false, q1, q2, q3, q4, q5]
        · simp only [gI_sI, gI_sL, gI_sA, gI_sB, gI_sAf, gI_sBf, gL_sI, gL_sL, gL_sA, gL_sB, gL_sAf, gL_sBf, gA_sI, gA_sL, gA_sA, gA_sB, gA_sAf, gA_sBf, gB_sI, gB_sL, gB_sA, gB_sB, gB_sAf, gB_sBf, Nat.reduceEqDiff, Nat.reduceMul, Nat.reduceAdd, false_and, true_and, and_true, and_false, if_true, if_false, q.1, q.2]
        · simp only [cOw, gI_sI, gI_sL, gI_sA, gI_sB, gI_sAf, gI_sBf, gL_sI, gL_sL, gL_sA, gL_sB, gL_sAf, gL_sBf, gA_sI, gA_sL, gA_sA, gA_sB, gA_sAf, gA_sBf, gB_sI, gB_sL, gB_sA, gB_sB, gB_sAf, gB_sBf, Nat.reduceEqDiff, Nat.reduceMul, Nat.reduceAdd, false_and, true_and, and_true, and_false, if_true, if_false]
        · by_cases c : to ≤ k ∧ k < to + rm
          · simp only [sm6, cKk, cKv, cVk, cVv, cHd, cCh, gI_sI, gI_sL, gI_sA, gI_sB, gI_sAf, gI_sBf, gL_sI, gL_sL, gL_sA, gL_sB, gL_sAf, gL_sBf, gA_sI, gA_sL, gA_sA, gA_sB, gA_sAf, gA_sBf, gB_sI, gB_sL, gB_sA, gB_sB, gB_sAf, gB_sBf, Nat.reduceEqDiff, Nat.reduceMul, Nat.reduceAdd, false_and, true_and, and_true, and_false, if_true, if_false, cpI, cpL, if_pos c]
          · simp only [sm6, cKk, cKv, cVk, cVv, cHd, cCh, gI_sI, gI_sL, gI_sA, gI_sB, gI_sAf, gI_sBf, gL_sI, gL_sL, gL_sA, gL_sB, gL_sAf, gL_sBf, gA_sI, gA_sL, gA_sA, gA_sB, gA_sAf, gA_sBf, gB_sI, gB_sL, gB_sA, gB_sB, gB_sAf, gB_sBf, Nat.reduceEqDiff, Nat.reduceMul, Nat.reduceAdd, false_and, true_and, and_true, and_false, if_true, if_false, cpI, cpL, if_neg c]
      · rw [ow] at o ⊢
        rw [i32_le] at o
        have on : cOw (rp w s) fr < 0 := by
          rw [i32_lt]
          omega
        have esz : sz (rp w s) fr = -(cOw (rp w s) fr).toInt := by
          unfold sz
          rw [if_pos on]
        have ng : (-cOw (rp w s) fr).toInt = -(cOw (rp w s) fr).toInt := by
          rw [show -cOw (rp w s) fr = 0 - cOw (rp w s) fr from (Int32.zero_sub _).symm, ktI_sub (by omega)]
          omega
        have ef : (fr + -cOw (rp w s) fr).toInt = fr.toInt + sz (rp w s) fr := by
          rw [ktI_add, ng, esz]
          rw [ng]
          omega
        refine ⟨fun _ => ⟨⟨nx _ ef, ?_, ⟨by omega, by omega⟩, cu_skip hp sf ef on hc, h114⟩, by omega⟩, fun q => absurd on q⟩
        have := (a4 _ ef).2
        rw [if_pos on] at this
        omega
  · dsimp only
    omega
  · refine ⟨fun _ _ _ => rfl, fun _ _ => rfl, fun _ _ _ _ => rfl, fun _ _ _ _ => rfl, fun k _ => ⟨⟨rfl, rfl, rfl, rfl, rfl, rfl⟩, rfl⟩, fun y hy r l => ?_, fun _ _ _ => rfl⟩
    have := H.tI hy
    dsimp only at l
    omega
  · rintro to t ⟨⟨fr, h1, h2, h3⟩, h114⟩
    refine ⟨cu_fin H hp h1 h2 h3 (fun f j => ?_) (fun _ _ => rfl) (fun a j k => ?_) (fun _ _ _ => rfl), fun j k => h114 j k⟩
    · rw [rp_I, rp_I, gI_sI]
    · unfold rp
      rw [gA_sAf, gA_sAf, gA_sI]
