/-! A new string, filled. -/
theorem newStr_ok (s0 s1 s2 : S1) (x h n a c44 : Int32) (r : Nat) (u : Int32) (h0 : Gm s0) (nm : Nm s0) (hN : Nw s0 s1 x 4) (hn : 0 ≤ n ∧ n ≤ 400000) (ht : f_textAll s0 + n ≤ 400000) (hh : hF s0 r u a n = h) (hr : r ≠ 58 ∧ r ≠ 60 ∧ r ≠ 61)
    (e : s2 = sA (sA (sI (sI (sA (sA (sAf s1 67 0 (cpI s1 r u 67 0 a (f_textMade s0) n)) 62 0 x (f_textMade s0)) 63 0 x n) 38 0 (f_textMade s0 + n)) 44 0 c44) 65 0 x (a_heads s0 h)) 68 0 h (x + 1)) (ec : c44 = f_textAll s0 + n) (hmA : f_madeAll s0 ≠ 60000) (hn6 : n ≤ 266667) : Mk2 s0 s2 x 4 ∧ Gm s2 ∧ Nm s2 ∧ E0 s0 s2 x := by
  obtain ⟨n1, n2, n3, n4, n5, n6, n7, n8, n9, n10, n11, n12, n13, n14⟩ := hN
  have hst := h0.1.2.1
  have tb : 0 ≤ f_textMade s0 ∧ f_textMade s0 ≤ 400000 ∧ f_textMade s0 + n ≤ 400000 := by
    have q1 := nm.2.1
    have q0 := hst.1
    clear n1 n2 n3 n4 n5 n6 n7 n8 n9 n10 n11 n12 n13 n14 e h0 nm hst hh
    grind
  have kk : ∀ k, 0 ≤ k → k < n → (f_textMade s0 ≤ f_textMade s0 + k ∧ f_textMade s0 + k < f_textMade s0 + n) ∧ f_textMade s0 + k - f_textMade s0 = k := fun k a b => by
    clear n1 n2 n3 n4 n5 n6 n7 n8 n9 n10 n11 n12 n13 n14 e h0 nm hst hh
    exact ⟨⟨by grind, by grind⟩, by grind⟩
  have rI : ∀ f i, f ≠ 38 → f ≠ 44 → gI s2 f i = gI s1 f i := fun f i b c => by
    rw [e]
    simp only [gI_sI, gI_sL, gI_sA, gI_sB, gI_sAf, gI_sBf, gL_sI, gL_sL, gL_sA, gL_sB, gL_sAf, gL_sBf, gA_sI, gA_sL, gA_sA, gA_sB, gA_sAf, gA_sBf, gB_sI, gB_sL, gB_sA, gB_sB, gB_sAf, gB_sBf, Nat.reduceEqDiff, Nat.reduceMul, Nat.reduceAdd, false_and, true_and, and_true, and_false, if_true, if_false, b, c]
  have rA : ∀ b i j, b ≠ 62 → b ≠ 63 → b ≠ 65 → b ≠ 67 → b ≠ 68 → gA s2 b i j = gA s1 b i j := fun b i j c d f g k => by
    rw [e]
    simp only [gI_sI, gI_sL, gI_sA, gI_sB, gI_sAf, gI_sBf, gL_sI, gL_sL, gL_sA, gL_sB, gL_sAf, gL_sBf, gA_sI, gA_sL, gA_sA, gA_sB, gA_sAf, gA_sBf, gB_sI, gB_sL, gB_sA, gB_sB, gB_sAf, gB_sBf, Nat.reduceEqDiff, Nat.reduceMul, Nat.reduceAdd, false_and, true_and, and_true, and_false, if_true, if_false, c, d, f, g, k]
  have rz : ∀ b z, z ≠ x → b ≠ 67 → b ≠ 68 → gA s2 b 0 z = gA s1 b 0 z := fun b z c d f => by
    rw [e]
    simp only [gI_sI, gI_sL, gI_sA, gI_sB, gI_sAf, gI_sBf, gL_sI, gL_sL, gL_sA, gL_sB, gL_sAf, gL_sBf, gA_sI, gA_sL, gA_sA, gA_sB, gA_sAf, gA_sBf, gB_sI, gB_sL, gB_sA, gB_sB, gB_sAf, gB_sBf, Nat.reduceEqDiff, Nat.reduceMul, Nat.reduceAdd, false_and, true_and, and_true, and_false, if_true, if_false, c, d, f]
  have rB : ∀ b i j, gB s2 b i j = gB s1 b i j := fun b i j => by
    rw [e]
    simp only [gI_sI, gI_sL, gI_sA, gI_sB, gI_sAf, gI_sBf, gL_sI, gL_sL, gL_sA, gL_sB, gL_sAf, gL_sBf, gA_sI, gA_sL, gA_sA, gA_sB, gA_sAf, gA_sBf, gB_sI, gB_sL, gB_sA, gB_sB, gB_sAf, gB_sBf, Nat.reduceEqDiff, Nat.reduceMul, Nat.reduceAdd, false_and, true_and, and_true, and_false, if_true, if_false]
  have rL : ∀ f i, gL s2 f i = gL s1 f i := fun f i => by
    rw [e]
    simp only [gI_sI, gI_sL, gI_sA, gI_sB, gI_sAf, gI_sBf, gL_sI, gL_sL, gL_sA, gL_sB, gL_sAf, gL_sBf, gA_sI, gA_sL, gA_sA, gA_sB, gA_sAf, gA_sBf, gB_sI, gB_sL, gB_sA, gB_sB, gB_sAf, gB_sBf, Nat.reduceEqDiff, Nat.reduceMul, Nat.reduceAdd, false_and, true_and, and_true, and_false, if_true, if_false]
  have r67 : ∀ j, a_text s2 j = if f_textMade s0 ≤ j ∧ j < f_textMade s0 + n then gA s1 r u (a + (j - f_textMade s0)) else gA s1 67 0 j := fun j => by
    rw [e]
    simp only [a_text, gI_sI, gI_sL, gI_sA, gI_sB, gI_sAf, gI_sBf, gL_sI, gL_sL, gL_sA, gL_sB, gL_sAf, gL_sBf, gA_sI, gA_sL, gA_sA, gA_sB, gA_sAf, gA_sBf, gB_sI, gB_sL, gB_sA, gB_sB, gB_sAf, gB_sBf, Nat.reduceEqDiff, Nat.reduceMul, Nat.reduceAdd, false_and, true_and, and_true, and_false, if_true, if_false, cpI]
  have r68 : ∀ q, a_heads s2 q = if q = h then x + 1 else gA s1 68 0 q := fun q => by
    rw [e]
    simp only [a_heads, gI_sI, gI_sL, gI_sA, gI_sB, gI_sAf, gI_sBf, gL_sI, gL_sL, gL_sA, gL_sB, gL_sAf, gL_sBf, gA_sI, gA_sL, gA_sA, gA_sB, gA_sAf, gA_sBf, gB_sI, gB_sL, gB_sA, gB_sB, gB_sAf, gB_sBf, Nat.reduceEqDiff, Nat.reduceMul, Nat.reduceAdd, false_and, true_and, and_true, and_false, if_true, if_false]
  have r62 : a_first s2 x = f_textMade s0 := by
    rw [e]
    simp only [a_first, gI_sI, gI_sL, gI_sA, gI_sB, gI_sAf, gI_sBf, gL_sI, gL_sL, gL_sA, gL_sB, gL_sAf, gL_sBf, gA_sI, gA_sL, gA_sA, gA_sB, gA_sAf, gA_sBf, gB_sI, gB_sL, gB_sA, gB_sB, gB_sAf, gB_sBf, Nat.reduceEqDiff, Nat.reduceMul, Nat.reduceAdd, false_and, true_and, and_true, and_false, if_true, if_false]
  have r63 : a_second s2 x = n := by
    rw [e]
    simp only [a_second, gI_sI, gI_sL, gI_sA, gI_sB, gI_sAf, gI_sBf, gL_sI, gL_sL, gL_sA, gL_sB, gL_sAf, gL_sBf, gA_sI, gA_sL, gA_sA, gA_sB, gA_sAf, gA_sBf, gB_sI, gB_sL, gB_sA, gB_sB, gB_sAf, gB_sBf, Nat.reduceEqDiff, Nat.reduceMul, Nat.reduceAdd, false_and, true_and, and_true, and_false, if_true, if_false]
  have r65 : a_chain s2 x = a_heads s0 h := by
    rw [e]
    simp only [a_chain, gI_sI, gI_sL, gI_sA, gI_sB, gI_sAf, gI_sBf, gL_sI, gL_sL, gL_sA, gL_sB, gL_sAf, gL_sBf, gA_sI, gA_sL, gA_sA, gA_sB, gA_sAf, gA_sBf, gB_sI, gB_sL, gB_sA, gB_sB, gB_sAf, gB_sBf, Nat.reduceEqDiff, Nat.reduceMul, Nat.reduceAdd, false_and, true_and, and_true, and_false, if_true, if_false]
  have r38 : f_textMade s2 = f_textMade s0 + n := by
    rw [e]
    simp only [f_textMade, gI_sI, gI_sL, gI_sA, gI_sB, gI_sAf, gI_sBf, gL_sI, gL_sL, gL_sA, gL_sB, gL_sAf, gL_sBf, gA_sI, gA_sL, gA_sA, gA_sB, gA_sAf, gA_sBf, gB_sI, gB_sL, gB_sA, gB_sB, gB_sAf, gB_sBf, Nat.reduceEqDiff, Nat.reduceMul, Nat.reduceAdd, false_and, true_and, and_true, and_false, if_true, if_false]
  have r44 : f_textAll s2 = f_textAll s0 + n := by
    rw [e, ec]
    simp only [f_textAll, gI_sI, gI_sL, gI_sA, gI_sB, gI_sAf, gI_sBf, gL_sI, gL_sL, gL_sA, gL_sB, gL_sAf, gL_sBf, gA_sI, gA_sL, gA_sA, gA_sB, gA_sAf, gA_sBf, gB_sI, gB_sL, gB_sA, gB_sB, gB_sAf, gB_sBf, Nat.reduceEqDiff, Nat.reduceMul, Nat.reduceAdd, false_and, true_and, and_true, and_false, if_true, if_false]
  clear e
  have eu : f_used s2 = f_used s1 := rI 40 0 (by decide) (by decide)
  have e41 : f_entryTop s2 = f_entryTop s0 := (rI 41 0 (by decide) (by decide)).trans (n6 41 0 (by decide) (by decide) (by decide) (by decide) (by decide))
  have hM : Mk2 s0 s2 x 4 := by
    refine ⟨by rw [eu]; exact n1, by rw [eu]; exact n2, by rw [eu]; exact n3, n4, ?_, fun f i a b _ c _ d _ e k l => (rI f i k l).trans (n6 f i a b c d e), fun f i => (rL f i).trans (n7 f i), fun a i j _ c d e f g _ l _ o p => (rA a i j f g l o p).trans (n8 a i j c d e), fun a i j _ => (rB a i j).trans (n9 a i j), fun z => ?_, fun z hz => ⟨?_, ?_, ?_, ?_, ?_, ?_, ?_, ?_⟩, fun j hj => ?_, ?_, (rI 33 0 (by decide) (by decide)).trans n13, (rI 42 0 (by decide) (by decide)).trans n14, (rA 61 0 x (by decide) (by decide) (by decide) (by decide) (by decide)).trans ((n12 x).trans (if_pos rfl)), (rA 60 0 x (by decide) (by decide) (by decide) (by decide) (by decide)).trans ((n11 x).trans (if_pos rfl))⟩
    · unfold Frl at *
      simp only [f_freed, f_existing, f_used, a_free, a_sort, rI 54 _ (by decide) (by decide), rI 34 _ (by decide) (by decide), rI 40 _ (by decide) (by decide), rA 66 _ _ (by decide) (by decide) (by decide) (by decide) (by decide), rA 58 _ _ (by decide) (by decide) (by decide) (by decide) (by decide)] at *
      exact n5
    · exact (rA 58 0 z (by decide) (by decide) (by decide) (by decide) (by decide)).trans (n10 z)
    · exact (rz 62 z hz (by decide) (by decide)).trans (n8 62 0 z (by decide) (by decide) (by decide))
    · exact (rz 63 z hz (by decide) (by decide)).trans (n8 63 0 z (by decide) (by decide) (by decide))
    · exact (rz 64 z hz (by decide) (by decide)).trans (n8 64 0 z (by decide) (by decide) (by decide))
    · exact (rz 65 z hz (by decide) (by decide)).trans (n8 65 0 z (by decide) (by decide) (by decide))
    · refine (rz 61 z hz (by decide) (by decide)).trans ((n12 z).trans ?_)
      rw [if_neg hz]
    · exact (rz 5 z hz (by decide) (by decide)).trans (n8 5 0 z (by decide) (by decide) (by decide))
    · exact (rB 6 0 z).trans (n9 6 0 z)
    · exact (rz 60 z hz (by decide) (by decide)).trans ((n11 z).trans (if_neg hz))
    · exact (rA 73 0 j (by decide) (by decide) (by decide) (by decide) (by decide)).trans (n8 73 0 j (by decide) (by decide) (by decide))
    · rw [e41]
      exact ⟨Int32.le_refl _, h0.1.1.2.1.2⟩
  have hNs : Ns s0 s2 x h n := by
    refine ⟨⟨hM.1.1, hM.1.2.1⟩, hM.2.1, hM.2.2.1, n4, hM.S, fun z hz => ⟨(hM.P hz).1, (hM.P hz).2.1, (hM.P hz).2.2.2.2.1, (hM.P hz).2.2.2.1⟩, ⟨r62, r63, ?_, r65⟩, fun q => ?_, fun j j1 j2 => ?_, ?_, r38, ⟨hn.1, hn.2, tb.2.2⟩, Int32.lt_of_lt_of_le hM.1.2.1 hM.1.2.2⟩
    · refine (rA 61 0 x (by decide) (by decide) (by decide) (by decide) (by decide)).trans ((n12 x).trans ?_)
      rw [if_pos rfl]
    · rw [r68, n8 68 0 q (by decide) (by decide) (by decide)]
    · rw [r67, if_neg (fun w => absurd (Int32.lt_of_le_of_lt w.1 j2) Int32.lt_irrefl)]
      exact n8 67 0 j (by decide) (by decide) (by decide)
    · rw [← hh]
      refine hF_gen hn.1 fun k a b => ?_
      obtain ⟨k1, k2⟩ := kk k a b
      refine (r67 _).trans ?_
      rw [if_pos k1, k2]
      exact n8 r u _ hr.1 hr.2.1 hr.2.2
  have hS2 := hst.ins (fun y q hq => (nm.2.2.2.2 y hq.1 hq.2.1 hq.2.2.1).1) nm.2.2.1.1 hNs
  have es : a_sort s2 x = 4 := by rw [hM.S, if_pos rfl]
  have no : ∀ q, q ≠ 4 → a_sort s2 x ≠ q := fun q p w => p (w.symm.trans es)
  exact ⟨hM, h0.mk2 hM (by decide) ⟨fun z => absurd z (no 5 (by decide)), fun z => absurd z (no 6 (by decide)), fun z => absurd z (no 7 (by decide)), fun z => absurd z (no 8 (by decide))⟩ ⟨fun z => absurd z (no 5 (by decide)), fun z => absurd z (no 6 (by decide)), fun z => absurd z (no 7 (by decide)), fun z => absurd z (no 8 (by decide))⟩ (fun z => absurd z (by decide)) hS2, nm.mk2 hM (fun _ => by rw [r63]; exact hn6) hmA 0 n ⟨by decide, by decide⟩ hn h0.1.1.2.1.1 h0.1.2.1.1.1 (e41.trans (Int32.add_zero _).symm) ((rI 43 0 (by decide) (by decide)).trans ((n6 43 0 (by decide) (by decide) (by decide) (by decide) (by decide)).trans (Int32.add_zero _).symm)) r38 r44 (by rw [Int32.add_zero]; exact nm.1.2.2) ht, e41⟩
