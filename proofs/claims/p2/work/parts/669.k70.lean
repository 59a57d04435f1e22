/-! The class: an error is raised. -/
theorem unwind_ok {s : S1} {n : Nat × Nat} (h : St5 s n) : ok M_Ma_unwind s (fun _ t => StE t n ∨ St3 t n ∨ St5 t n) := by
  obtain ⟨W, F, h1, t5, er⟩ := h
  have e0 : (0 : Int32).toInt = 0 := rfl
  have e1 : (1 : Int32).toInt = 1 := rfl
  have e200 : (200 : Int32).toInt = 200 := rfl
  have em : (-1 : Int32).toInt = -1 := rfl
  simp only [M_Ma_unwind, ok_B, ok_C, ok_R, ok_L, ok_K, ok_GI, ok_GL, ok_PI, ok_PL, ok_AI, ok_AL, ok_SI, ok_SL, ok_CI, cmp_lt, cmp_le, cmp_gt, cmp_ge, cmp_eq, nar0, nar1, Sum.elim_inl, Sum.elim_inr, ok_PzT, ok_PzC, ok_PzP, ok_PrC, ok_PrP, ok_PrF, ok_PrN, ok_Ln, ok_CL, ok_Nw, ok_S, ok_Ks, ok_Nz]
  refine ok_mono (rClear_ok 132 s) ?_
  rintro - a ⟨ka, za⟩
  obtain ⟨q1, q2, q3, q4⟩ := cRx.kept (.inl rfl) ka W (fun _ => cRow.nil za)
  have la := cRx.lw (.inl rfl) ka
  have Wa := la.w W F q1 q2 q3 q4
  have Fa := la.fr W F (fun z => absurd z (by decide))
  refine ok_mono (rClear_ok 138 a) ?_
  rintro - b ⟨kb, zb⟩
  obtain ⟨q1, q2, q3, q4⟩ := cRx.kept (.inr (.inr (.inl rfl))) kb Wa (fun _ => cRow.nil zb)
  have lb := cRx.lw (.inr (.inr (.inl rfl))) kb
  have Wb := lb.w Wa Fa q1 q2 q3 q4
  have Fb := lb.fr Wa Fa (fun z => absurd z (by decide))
  have st : gI b 18951 (mCur b) = 1 := by
    rw [lb.cur, la.cur, kb.1 _ _ (by decide), ka.1 _ _ (by decide)]
    exact h1
  have tb : gI b 16396 0 = 5 := by
    rw [kb.1 _ _ (by decide), ka.1 _ _ (by decide)]
    exact t5
  have eb : cV (cLv false b) (gI b 16399 0) (gL b 16400 0) := by
    rw [lb.lv', la.lv', kb.1 _ _ (by decide), ka.1 _ _ (by decide), kb.2.1, ka.2.1]
    exact er
  clear q1 q2 q3 q4 la lb ka kb za zb Wa Fa W F h1 t5 er
  have ac := Wb.cur
  obtain ⟨-, dD, -⟩ := Wb.hi.dep ac
  refine ⟨fun _ => ⟨ac.1, ?_⟩, fun _ => ?_⟩
  · refine ok_mono (P := fun e t => t = b ∧ e.1 = mCur b ∧ e.2.toInt ≤ (oD b (mCur b)).toInt) (ok_W (fun y t => t = b ∧ y.1 = mCur b ∧ y.2.toInt ≤ (oD b (mCur b)).toInt) (fun y _ => y.2.toInt.toNat) ?_ (gI b 16395 0, gI b 18948 (gI b 16395 0)) b ⟨rfl, rfl, Int.le_refl _⟩) ?_
    · rintro ⟨c, k⟩ t ⟨et, ec, hk⟩
      dsimp only at ec hk
      subst et ec
      simp only [M_Ma_unwind_L36, ok_B, ok_C, ok_R, ok_L, ok_K, ok_GI, ok_GL, ok_PI, ok_PL, ok_AI, ok_AL, ok_SI, ok_SL, ok_CI, cmp_lt, cmp_le, cmp_gt, cmp_ge, cmp_eq, nar0, nar1, Sum.elim_inl, Sum.elim_inr, ok_PzT, ok_PzC, ok_PzP, ok_PrC, ok_PrP, ok_PrF, ok_PrN, ok_Ln, ok_CL, ok_Nw, ok_S, ok_Ks, ok_Nz]
      refine ⟨fun _ => ⟨by trivial, by trivial, hk⟩, fun z => ?_⟩
      rw [i32_le] at z
      have ek : (k - 1).toInt = k.toInt - 1 := by rw [ktI_sub] <;> omega
      have ek' : (k + -1).toInt = k.toInt - 1 := by rw [ktI_add] <;> omega
      refine ⟨⟨by rw [i32_le]; omega, by rw [i32_lt]; omega⟩, fun _ => ⟨by trivial, by trivial, hk⟩, fun _ => ⟨⟨by trivial, by trivial, by omega⟩, by omega⟩⟩
    · rintro ⟨c, k⟩ t ⟨et, ec, hk⟩
      dsimp only at ec hk
      subst et ec
      exact unwind61_ok Wb Fb st tb eb hk
  · refine ok_mono (endAll_ok Wb Fb (by rw [st]; decide) eb) ?_
    rintro - t q
    exact .inl q
