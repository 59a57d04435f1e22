/-! Functions are made. -/
def Cp (s s' : S1) (n : Int32) : Prop := (∀ f i, gI s' f i = gI s f i) ∧ (∀ f i, gL s' f i = gL s f i) ∧ (∀ a i j, gB s' a i j = gB s a i j) ∧ (∀ a i j, a ≠ 73 → gA s' a i j = gA s a i j) ∧ (∀ j, j < f_entryTop s → a_follow s' j = a_follow s j) ∧ ∀ k, 0 ≤ k → k < n → a_follow s' (f_entryTop s + k) = a_capture s k
theorem capt_ok (s : S1) (n x : Int32) (hn : 0 ≤ n ∧ n ≤ 64) (hp : p_follow s = 1) (ht : 0 ≤ f_entryTop s ∧ f_entryTop s ≤ 300000 ∧ f_entryTop s + n ≤ 300000) : ok (oW M_Mo_closure_L95 (n, x, 0)) s (fun e s' => e = (n, x) ∧ Cp s s' n) := by
  refine ok_W (fun z s' => ∃ k, z = (n, x, k) ∧ (0 ≤ k ∧ k ≤ n) ∧ Cp s s' k) (fun z _ => (n - z.2.2).toNatClampNeg) ?_ _ _ ⟨0, rfl, ⟨by decide, hn.1⟩, fun _ _ => rfl, fun _ _ => rfl, fun _ _ _ => rfl, fun _ _ _ _ => rfl, fun _ _ => rfl, fun k a b => absurd (Int32.lt_of_le_of_lt a b) Int32.lt_irrefl⟩
  rintro z s1 ⟨k, ez, ⟨k1, k2⟩, c1, c2, c3, c4, c5, c6⟩
  subst ez
  simp only [M_Mo_closure_L95, ok_B, ok_C, ok_R, ok_L, ok_K, ok_GI, ok_GL, ok_PI, ok_PL, ok_AI, ok_AL, ok_SI, ok_SL, ok_Pr, ok_CI, cmp_lt, cmp_le, cmp_gt, cmp_ge, cmp_eq, nar0, nar1, Sum.elim_inl, Sum.elim_inr]
  have e71 : gI s1 9471 0 = 1 := (c1 9471 0).trans hp
  have e41 : gI s1 41 0 = f_entryTop s := c1 41 0
  have e77 : gA s1 77 0 k = a_capture s k := c4 77 0 k (by decide)
  rw [e71, e41, e77]
  refine ⟨fun c => ⟨by trivial, ?_⟩, fun c => ?_⟩
  · rw [← Int32.le_antisymm k2 c]
    exact ⟨c1, c2, c3, c4, c5, c6⟩
  have hk := Int32.not_le.mp c
  have b1 := add_in (a := f_entryTop s) (i := k) (n := n) (L := 300000) ⟨ht.1, Int32.le_trans ht.2.1 (by decide)⟩ k1 hk (Int32.le_trans hn.2 (by decide)) ht.2.2
  have nx : (0 ≤ k + 1 ∧ k + 1 ≤ n) ∧ (n - (k + 1)).toNatClampNeg < (n - k).toNatClampNeg ∧ (∀ j, j < k + 1 → j = k ∨ j < k) ∧ (0 ≤ k ∧ k < 64) := by
    clear c1 c2 c3 c4 c5 c6 b1 hp e71 e41 e77 ht
    exact ⟨by grind, clamp_lt (by grind) (by grind), fun j z => by grind, by grind⟩
  have lo : ∀ j, j < f_entryTop s → j ≠ f_entryTop s + k := fun j w e => by
    have h2 := ht.2.1
    have h1 := ht.1
    have h3 := nx.2.2.2
    clear c1 c2 c3 c4 c5 c6 b1 hp e71 e41 e77 nx
    grind
  have cn : ∀ j, j ≠ k → f_entryTop s + j ≠ f_entryTop s + k := fun j w e => by
    clear c1 c2 c3 c4 c5 c6 b1 hp e71 e41 e77 nx lo
    grind
  refine ⟨by trivial, nx.2.2.2, b1, ⟨_, rfl, nx.1, c1, c2, c3, fun a i j b => ?_, fun j w => ?_, fun j a b => ?_⟩, nx.2.1⟩
  · rw [gA_sA, if_neg (fun z => b z.1)]
    exact c4 a i j b
  · show gA (sA s1 73 0 _ _) 73 0 j = _
    rw [gA_sA, if_neg (fun z => lo j w z.2.2)]
    exact c5 j w
  · show gA (sA s1 73 0 _ _) 73 0 _ = _
    rcases nx.2.2.1 j b with e | e
    · rw [e, gA_sA, if_pos ⟨rfl, rfl, rfl⟩]
    · rw [gA_sA, if_neg (fun z => cn j (fun w => by rw [w] at e; exact absurd e Int32.lt_irrefl) z.2.2)]
      exact c6 j a e
theorem clos83_ok (s0 s1 : S1) (x l1 k0 n : Int32) (h0 : Gm s0) (hN : Nw s0 (s1) x 6) (hn : 0 ≤ n ∧ n ≤ 64) (ht : f_entryTop s0 + n ≤ 300000) (hl : l1 < 251) (hk : 0 ≤ l1 → k0 = f_entryTop s0)
    (hc : 0 ≤ l1 → ∀ k, 0 ≤ k → k < n → Lv false s0 (a_capture s0 k) 8) (hw : l1 < 0 → Lv false s0 k0 7) (c37 c43 : Int32) :
    ok (M_Mo_closure_j83 n x k0 x) (sA (sI (sI s1 37 0 c37) 43 0 c43) 62 0 x l1) (fun v s' => v = x ∧ Mk2 s0 s' x 6 ∧ Gm s' ∧ gI s' 41 0 = f_entryTop s0 + n ∧ (a_first s' x = l1 ∧ a_second s' x = k0 ∧ a_third s' x = n) ∧ gI s' 43 0 = c43 ∧ gI s' 38 0 = gI s1 38 0 ∧ gI s' 44 0 = gI s1 44 0) := by
  have hx1 : 0 ≤ x ∧ x < 4100 := ⟨hN.1.1, Int32.lt_trans (Int32.lt_of_lt_of_le hN.1.2.1 hN.1.2.2) (by decide)⟩
  obtain ⟨n1, n2, n3, n4, n5, n6, n7, n8, n9, n10, n11, n12, n13, n14⟩ := hN
  have hv := h0.1.1
  have et1 : gI s1 41 0 = f_entryTop s0 := n6 41 0 (by decide) (by decide) (by decide) (by decide) (by decide)
  simp only [M_Mo_closure_j83, ok_B, ok_C, ok_R, ok_L, ok_K, ok_GI, ok_GL, ok_PI, ok_PL, ok_AI, ok_AL, ok_SI, ok_SL, ok_Pr, ok_CI, cmp_lt, cmp_le, cmp_gt, cmp_ge, cmp_eq, nar0, nar1, Sum.elim_inl, Sum.elim_inr]
  refine ⟨hx1, hx1, ?_⟩
  have eT : f_entryTop (sA (sA (sA (sI (sI s1 37 0 c37) 43 0 c43) 62 0 x l1) 63 0 x k0) 64 0 x n) = f_entryTop s0 := by
    simp only [f_entryTop, gI_sI, gI_sL, gI_sA, gI_sB, gI_sAf, gI_sBf, gL_sI, gL_sL, gL_sA, gL_sB, gL_sAf, gL_sBf, gA_sI, gA_sL, gA_sA, gA_sB, gA_sAf, gA_sBf, gB_sI, gB_sL, gB_sA, gB_sB, gB_sAf, gB_sBf, Nat.reduceEqDiff, Nat.reduceMul, Nat.reduceAdd, false_and, true_and, and_true, and_false, if_true, if_false]
    exact et1
  refine ok_mono (capt_ok _ n x hn ?_ (by rw [eT]; exact ⟨hv.2.1.1, hv.2.1.2, ht⟩)) fun e s' ⟨ee, c1, c2, c3, c4, c5, c6⟩ => ?_
  · have q : gI s1 9471 0 = gI s0 9471 0 := n6 9471 0 (by decide) (by decide) (by decide) (by decide) (by decide)
    simp only [p_follow, gI_sI, gI_sL, gI_sA, gI_sB, gI_sAf, gI_sBf, gL_sI, gL_sL, gL_sA, gL_sB, gL_sAf, gL_sBf, gA_sI, gA_sL, gA_sA, gA_sB, gA_sAf, gA_sBf, gB_sI, gB_sL, gB_sA, gB_sB, gB_sAf, gB_sBf, Nat.reduceEqDiff, Nat.reduceMul, Nat.reduceAdd, false_and, true_and, and_true, and_false, if_true, if_false]
    rw [q]
    exact hv.1.2.2.2.2.1
  subst ee
  rw [eT] at c5 c6
  dsimp only
  have e41 : gI s' 41 0 = f_entryTop s0 := (c1 41 0).trans eT
  rw [e41]
  -- what the last world reads
  have rI : ∀ f i, f ≠ 37 → f ≠ 41 → f ≠ 43 → gI (sI s' 41 0 (f_entryTop s0 + n)) f i = gI s1 f i := fun f i a b c => by
    rw [gI_sI, if_neg (fun z => b z.1), c1]
    simp only [gI_sI, gI_sL, gI_sA, gI_sB, gI_sAf, gI_sBf, gL_sI, gL_sL, gL_sA, gL_sB, gL_sAf, gL_sBf, gA_sI, gA_sL, gA_sA, gA_sB, gA_sAf, gA_sBf, gB_sI, gB_sL, gB_sA, gB_sB, gB_sAf, gB_sBf, Nat.reduceEqDiff, Nat.reduceMul, Nat.reduceAdd, false_and, true_and, and_true, and_false, if_true, if_false, a, c]
  have rA : ∀ a i j, a ≠ 62 → a ≠ 63 → a ≠ 64 → a ≠ 73 → gA (sI s' 41 0 (f_entryTop s0 + n)) a i j = gA s1 a i j := fun a i j b c d e => by
    rw [gA_sI, c4 a i j e]
    simp only [gI_sI, gI_sL, gI_sA, gI_sB, gI_sAf, gI_sBf, gL_sI, gL_sL, gL_sA, gL_sB, gL_sAf, gL_sBf, gA_sI, gA_sL, gA_sA, gA_sB, gA_sAf, gA_sBf, gB_sI, gB_sL, gB_sA, gB_sB, gB_sAf, gB_sBf, Nat.reduceEqDiff, Nat.reduceMul, Nat.reduceAdd, false_and, true_and, and_true, and_false, if_true, if_false, b, c, d]
  have rz : ∀ a z, z ≠ x → a ≠ 73 → gA (sI s' 41 0 (f_entryTop s0 + n)) a 0 z = gA s1 a 0 z := fun a z b c => by
    rw [gA_sI, c4 a 0 z c]
    simp only [gI_sI, gI_sL, gI_sA, gI_sB, gI_sAf, gI_sBf, gL_sI, gL_sL, gL_sA, gL_sB, gL_sAf, gL_sBf, gA_sI, gA_sL, gA_sA, gA_sB, gA_sAf, gA_sBf, gB_sI, gB_sL, gB_sA, gB_sB, gB_sAf, gB_sBf, Nat.reduceEqDiff, Nat.reduceMul, Nat.reduceAdd, false_and, true_and, and_true, and_false, if_true, if_false, b]
  have rB : ∀ a i j, gB (sI s' 41 0 (f_entryTop s0 + n)) a i j = gB s1 a i j := fun a i j => by
    rw [gB_sI, c3]
    simp only [gI_sI, gI_sL, gI_sA, gI_sB, gI_sAf, gI_sBf, gL_sI, gL_sL, gL_sA, gL_sB, gL_sAf, gL_sBf, gA_sI, gA_sL, gA_sA, gA_sB, gA_sAf, gA_sBf, gB_sI, gB_sL, gB_sA, gB_sB, gB_sAf, gB_sBf, Nat.reduceEqDiff, Nat.reduceMul, Nat.reduceAdd, false_and, true_and, and_true, and_false, if_true, if_false]
  have rL : ∀ f i, gL (sI s' 41 0 (f_entryTop s0 + n)) f i = gL s1 f i := fun f i => by
    rw [gL_sI, c2]
    simp only [gI_sI, gI_sL, gI_sA, gI_sB, gI_sAf, gI_sBf, gL_sI, gL_sL, gL_sA, gL_sB, gL_sAf, gL_sBf, gA_sI, gA_sL, gA_sA, gA_sB, gA_sAf, gA_sBf, gB_sI, gB_sL, gB_sA, gB_sB, gB_sAf, gB_sBf, Nat.reduceEqDiff, Nat.reduceMul, Nat.reduceAdd, false_and, true_and, and_true, and_false, if_true, if_false]
  have r43 : gI (sI s' 41 0 (f_entryTop s0 + n)) 43 0 = c43 := by
    rw [gI_sI, if_neg (by decide), c1]
    simp only [gI_sI, gI_sL, gI_sA, gI_sB, gI_sAf, gI_sBf, gL_sI, gL_sL, gL_sA, gL_sB, gL_sAf, gL_sBf, gA_sI, gA_sL, gA_sA, gA_sB, gA_sAf, gA_sBf, gB_sI, gB_sL, gB_sA, gB_sB, gB_sAf, gB_sBf, Nat.reduceEqDiff, Nat.reduceMul, Nat.reduceAdd, false_and, true_and, and_true, and_false, if_true, if_false]
  have r41 : f_entryTop (sI s' 41 0 (f_entryTop s0 + n)) = f_entryTop s0 + n := by simp only [f_entryTop, gI_sI, gI_sL, gI_sA, gI_sB, gI_sAf, gI_sBf, gL_sI, gL_sL, gL_sA, gL_sB, gL_sAf, gL_sBf, gA_sI, gA_sL, gA_sA, gA_sB, gA_sAf, gA_sBf, gB_sI, gB_sL, gB_sA, gB_sB, gB_sAf, gB_sBf, Nat.reduceEqDiff, Nat.reduceMul, Nat.reduceAdd, false_and, true_and, and_true, and_false, if_true, if_false]
  have r62 : a_first (sI s' 41 0 (f_entryTop s0 + n)) x = l1 := by
    show gA _ 62 0 x = l1
    rw [gA_sI, c4 62 0 x (by decide)]
    simp only [gI_sI, gI_sL, gI_sA, gI_sB, gI_sAf, gI_sBf, gL_sI, gL_sL, gL_sA, gL_sB, gL_sAf, gL_sBf, gA_sI, gA_sL, gA_sA, gA_sB, gA_sAf, gA_sBf, gB_sI, gB_sL, gB_sA, gB_sB, gB_sAf, gB_sBf, Nat.reduceEqDiff, Nat.reduceMul, Nat.reduceAdd, false_and, true_and, and_true, and_false, if_true, if_false]
  have r63 : a_second (sI s' 41 0 (f_entryTop s0 + n)) x = k0 := by
    show gA _ 63 0 x = k0
    rw [gA_sI, c4 63 0 x (by decide)]
    simp only [gI_sI, gI_sL, gI_sA, gI_sB, gI_sAf, gI_sBf, gL_sI, gL_sL, gL_sA, gL_sB, gL_sAf, gL_sBf, gA_sI, gA_sL, gA_sA, gA_sB, gA_sAf, gA_sBf, gB_sI, gB_sL, gB_sA, gB_sB, gB_sAf, gB_sBf, Nat.reduceEqDiff, Nat.reduceMul, Nat.reduceAdd, false_and, true_and, and_true, and_false, if_true, if_false]
  have r64 : a_third (sI s' 41 0 (f_entryTop s0 + n)) x = n := by
    show gA _ 64 0 x = n
    rw [gA_sI, c4 64 0 x (by decide)]
    simp only [gI_sI, gI_sL, gI_sA, gI_sB, gI_sAf, gI_sBf, gL_sI, gL_sL, gL_sA, gL_sB, gL_sAf, gL_sBf, gA_sI, gA_sL, gA_sA, gA_sB, gA_sAf, gA_sBf, gB_sI, gB_sL, gB_sA, gB_sB, gB_sAf, gB_sBf, Nat.reduceEqDiff, Nat.reduceMul, Nat.reduceAdd, false_and, true_and, and_true, and_false, if_true, if_false]
  have r73 : ∀ j, a_follow (sI s' 41 0 (f_entryTop s0 + n)) j = a_follow s' j := fun j => rfl
  have cap : ∀ k, a_capture (sA (sA (sA (sI (sI s1 37 0 c37) 43 0 c43) 62 0 x l1) 63 0 x k0) 64 0 x n) k = a_capture s0 k := fun k => by
    simp only [a_capture, gI_sI, gI_sL, gI_sA, gI_sB, gI_sAf, gI_sBf, gL_sI, gL_sL, gL_sA, gL_sB, gL_sAf, gL_sBf, gA_sI, gA_sL, gA_sA, gA_sB, gA_sAf, gA_sBf, gB_sI, gB_sL, gB_sA, gB_sB, gB_sAf, gB_sBf, Nat.reduceEqDiff, Nat.reduceMul, Nat.reduceAdd, false_and, true_and, and_true, and_false, if_true, if_false]
    exact n8 77 0 k (by decide) (by decide) (by decide)
  have nn : f_entryTop s0 ≤ f_entryTop s0 + n := by
    have h2 := hv.2.1.2
    have h1 := hv.2.1.1
    have h3 := hn
    clear c1 c2 c3 c4 c5 c6 rI rA rz rB rL r73 cap n1 n2 n3 n4 n5 n6 n7 n8 n9 n10 n11 n12 hc hw hk hv h0
    grind
  generalize sI s' 41 0 (f_entryTop s0 + n) = s2 at *
  have hM : Mk2 s0 s2 x 6 := by
    have eu : f_used s2 = f_used s1 := rI 40 0 (by decide) (by decide) (by decide)
    refine ⟨by rw [eu]; exact n1, by rw [eu]; exact n2, by rw [eu]; exact n3, n4, ?_, fun f i a b c d e g k l _ _ => (rI f i c e k).trans (n6 f i a b d g l), fun f i => (rL f i).trans (n7 f i), fun a i j b c d e f g k l m _ _ => (rA a i j f g k m).trans (n8 a i j c d e), fun a i j _ => (rB a i j).trans (n9 a i j), fun z => ?_, fun z hz => ⟨?_, ?_, ?_, ?_, ?_, ?_, ?_, ?_⟩, fun j hj => ?_, ?_, (rI 33 0 (by decide) (by decide) (by decide)).trans n13, (rI 42 0 (by decide) (by decide) (by decide)).trans n14, (rA 61 0 x (by decide) (by decide) (by decide) (by decide)).trans ((n12 x).trans (if_pos rfl)), (rA 60 0 x (by decide) (by decide) (by decide) (by decide)).trans ((n11 x).trans (if_pos rfl))⟩
    · unfold Frl at *
      simp only [f_freed, f_existing, f_used, a_free, a_sort, rI 54 _ (by decide) (by decide) (by decide), rI 34 _ (by decide) (by decide) (by decide), rI 40 _ (by decide) (by decide) (by decide), rA 66 _ _ (by decide) (by decide) (by decide) (by decide), rA 58 _ _ (by decide) (by decide) (by decide) (by decide)] at *
      exact n5
    · exact (rA 58 0 z (by decide) (by decide) (by decide) (by decide)).trans (n10 z)
    · exact (rz 62 z hz (by decide)).trans (n8 62 0 z (by decide) (by decide) (by decide))
    · exact (rz 63 z hz (by decide)).trans (n8 63 0 z (by decide) (by decide) (by decide))
    · exact (rz 64 z hz (by decide)).trans (n8 64 0 z (by decide) (by decide) (by decide))
    · exact (rz 65 z hz (by decide)).trans (n8 65 0 z (by decide) (by decide) (by decide))
    · refine (rz 61 z hz (by decide)).trans ((n12 z).trans ?_)
      rw [if_neg hz]
    · exact (rz 5 z hz (by decide)).trans (n8 5 0 z (by decide) (by decide) (by decide))
    · exact (rB 6 0 z).trans (n9 6 0 z)
    · exact (rz 60 z hz (by decide)).trans ((n11 z).trans (if_neg hz))
    · rw [r73, c5 j hj]
      show gA (sA (sA (sA (sI (sI s1 37 0 c37) 43 0 c43) 62 0 x l1) 63 0 x k0) 64 0 x n) 73 0 j = _
      simp only [gI_sI, gI_sL, gI_sA, gI_sB, gI_sAf, gI_sBf, gL_sI, gL_sL, gL_sA, gL_sB, gL_sAf, gL_sBf, gA_sI, gA_sL, gA_sA, gA_sB, gA_sAf, gA_sBf, gB_sI, gB_sL, gB_sA, gB_sB, gB_sAf, gB_sBf, Nat.reduceEqDiff, Nat.reduceMul, Nat.reduceAdd, false_and, true_and, and_true, and_false, if_true, if_false]
      exact n8 73 0 j (by decide) (by decide) (by decide)
    · rw [r41]
      exact ⟨nn, ht⟩
  have es : a_sort s2 x = 6 := by rw [hM.S, if_pos rfl]
  have no : ∀ q, q ≠ 6 → a_sort s2 x ≠ q := fun q p w => p (w.symm.trans es)
  refine ⟨by trivial, hM, h0.mk2 hM (by decide) ⟨fun z => absurd z (no 5 (by decide)), fun _ => ?_, fun z => absurd z (no 7 (by decide)), fun z => absurd z (no 8 (by decide))⟩ ⟨fun z => absurd z (no 5 (by decide)), fun _ => ?_, fun z => absurd z (no 7 (by decide)), fun z => absurd z (no 8 (by decide))⟩ (fun z => absurd z (by decide)) (h0.1.2.1.mk2 hM (by decide) (fun j => (rA 67 0 j (by decide) (by decide) (by decide) (by decide)).trans (n8 67 0 j (by decide) (by decide) (by decide))) (fun j => (rA 68 0 j (by decide) (by decide) (by decide) (by decide)).trans (n8 68 0 j (by decide) (by decide) (by decide))) ((rI 38 0 (by decide) (by decide) (by decide)).trans (n6 38 0 (by decide) (by decide) (by decide) (by decide) (by decide)))), r41, ⟨r62, r63, r64⟩, r43, rI 38 0 (by decide) (by decide) (by decide), rI 44 0 (by decide) (by decide) (by decide)⟩
  · rw [r62, r63, r64, r41]
    refine ⟨hl, fun w => ?_⟩
    rw [hk w]
    exact ⟨hv.2.1.1, hn.1, hv.2.1.2, hn.2, Int32.le_refl _⟩
  · unfold FnV
    rw [r62, r63, r64]
    refine ⟨fun w => (hw w).mk2 hM (by decide), fun w k a b => ?_⟩
    rw [hk w, r73, c6 k a b, cap]
    exact (hc w k a b).mk2 hM (by decide)
