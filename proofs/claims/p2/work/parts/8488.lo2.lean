/-! Looking over: every instruction of every prototype. -/
theorem next_ix (a i : Int32) : a + i + 1 = a + (i + 1) := by grind
theorem last_ix (a i : Int32) : a + i - 1 = a + (i - 1) := by grind
theorem back_in {c i : Int32} (h0 : 0 ≤ i) (h1 : i < c) (c' : i ≠ 0) : 0 ≤ i - 1 ∧ i - 1 < c := ⟨by grind, by grind⟩
theorem fwd_in {c i : Int32} (h0 : 0 ≤ i) (h1 : i < c) (c' : ¬ c ≤ i + 1) : 0 ≤ i + 1 ∧ i + 1 < c := ⟨by grind, by grind⟩
theorem us0 : ¬ us 0 := fun h => by
  have e : iO 0 = 0 := by decide
  rcases h.1 with q | q | q | q <;> rw [e] at q <;> exact absurd q (by decide)
/-- with what stands next: k is 0 where nothing does -/
def Nxt (s : S1) (p i k x : Int32) : Prop := (k = 0 → x = 0 ∧ ¬ i + 1 < a_codes s p) ∧ (k ≠ 0 → x = wd s p (i + 1))
theorem form231 {s : S1} {p i : Int32} (h : Lk s p) (hw : Wn s p i (wd s p i) (iO (wd s p i)) → Wf s p i) : ok (M_Mo_formed_j231 p i (wd s p i) (iO (wd s p i))) s (Dc s (Wf s p i)) := by
  unfold M_Mo_formed_j231
  exact dcB (named_ok s p i _ h) (dcK (Or.inl rfl) dc0) fun w => dcK (Or.inr rfl) (dc1 (hw w))
theorem form195 {s : S1} {p i x : Int32} (h : Lk s p) (hw : ((31 ≤ iO (wd s p i) ∧ iO (wd s p i) ≤ 35) → Gs s p (i + 2)) → Wn s p i (wd s p i) (iO (wd s p i)) → Wf s p i) : ok (M_Mo_formed_j195 p i (wd s p i) (iO (wd s p i)) x) s (Dc s (Wf s p i)) := by
  unfold M_Mo_formed_j195 M_Mo_op
  refine dcC (fun c => form231 h (hw fun z => absurd (Int32.lt_of_le_of_lt z.1 c) Int32.lt_irrefl)) fun _ => dcC (fun c => form231 h (hw fun z => absurd (Int32.lt_of_le_of_lt z.2 c) Int32.lt_irrefl)) fun _ => dcP (dcC (fun _ => ?_) fun _ => dc0)
  exact dcB (goes_dc h) (dcC0 dc0) fun g => dcC1 (form231 h (hw fun _ => g))
theorem form161 {s : S1} {p i x : Int32} (h : Lk s p) (i0 : 0 ≤ i) (i1 : i < a_codes s p) (hw : (us (wd s p i) → i ≠ 0 ∧ mks (wd s p (i - 1))) → ((31 ≤ iO (wd s p i) ∧ iO (wd s p i) ≤ 35) → Gs s p (i + 2)) → Wn s p i (wd s p i) (iO (wd s p i)) → Wf s p i) : ok (M_Mo_formed_j161 p i (wd s p i) (iO (wd s p i)) x) s (Dc s (Wf s p i)) := by
  unfold M_Mo_formed_j161
  refine dsB (q_uses_ok s _) (fun u => dcC0 (form195 h (hw fun z => absurd z u))) fun u => dcC1 (dcC (fun _ => dc0) fun c => dcA h.1 ?_)
  have b := back_in i0 i1 c
  have e : gA s 49 0 p + i - 1 = a_codeAt s p + (i - 1) := last_ix _ _
  rw [e]
  refine dcA (code_in h b.1 b.2) ?_
  exact dsB (makes_ok s _) (fun _ => dcC0 dc0) fun m => dcC1 (form195 h (hw fun _ => ⟨c, m⟩))
theorem form106 {s : S1} {p i k x : Int32} (h : Lk s p) (i0 : 0 ≤ i) (i1 : i < a_codes s p) (hx : Nxt s p i k x) (hw : ¬ i + 1 < a_codes s p → iO (wd s p i) = 30 ∨ iO (wd s p i) = 37 ∨ iO (wd s p i) = 38) : ok (M_Mo_formed_j106 p i (wd s p i) (iO (wd s p i)) x) s (Dc s (Wf s p i)) := by
  unfold M_Mo_formed_j106 M_Mo_op M_Mo_a
  refine dsB (makes_ok s _) (fun m => dcC0 (form161 h i0 i1 fun u g w => ⟨hw, fun z => absurd z m, u, g, w⟩)) fun m => dcC1 (dcP ?_)
  have k140 : ∀ y : Int32, (us x → (if iO x = 38 then iA x else iA x + 1) = y) → ok (M_Mo_formed_j140 p i (wd s p i) (iO (wd s p i)) x y) s (Dc s (Wf s p i)) := fun y hy => by
    unfold M_Mo_formed_j140 M_Mo_a
    refine dsB (q_uses_ok s _) (fun _ => dcC0 dc0) fun u => dcC1 (dcP (dcC (fun le => ?_) fun _ => dc0))
    have k0 : k ≠ 0 := fun e => us0 (by
      have q := (hx.1 e).1
      rw [q] at u
      exact u)
    have ex := hx.2 k0
    refine form161 h i0 i1 fun u2 g w => ⟨hw, fun _ => ?_, u2, g, w⟩
    rw [← ex]
    refine ⟨u, ?_⟩
    rw [hy u]
    exact le
  refine dcC (fun c => dcP (k140 _ fun _ => ?_)) fun c => dcP (k140 _ fun _ => ?_)
  · have c' : iO x = 38 := c
    rw [if_pos c']
  · have c' : ¬ iO x = 38 := c
    rw [if_neg c']
theorem form82 {s : S1} {p i k : Int32} (h : Lk s p) (i0 : 0 ≤ i) (i1 : i < a_codes s p) (hk : (k = 0 → ¬ i + 1 < a_codes s p) ∧ (k ≠ 0 → ¬ a_codes s p ≤ i + 1)) (hw : ¬ i + 1 < a_codes s p → iO (wd s p i) = 30 ∨ iO (wd s p i) = 37 ∨ iO (wd s p i) = 38) : ok (M_Mo_formed_j82 p i (wd s p i) (iO (wd s p i)) k) s (Dc s (Wf s p i)) := by
  unfold M_Mo_formed_j82
  refine dcC (fun c => form106 (k := 0) h i0 i1 ⟨fun _ => ⟨rfl, hk.1 c⟩, fun z => absurd rfl z⟩ hw) fun c => dcA h.1 ?_
  have b := fwd_in i0 i1 (hk.2 c)
  have e : gA s 49 0 p + i + 1 = a_codeAt s p + (i + 1) := next_ix _ _
  rw [e]
  exact dcA (code_in h b.1 b.2) (form106 (k := 1) h i0 i1 ⟨fun z => absurd z (by decide), fun _ => rfl⟩ hw)
theorem form52 {s : S1} {p i k : Int32} (h : Lk s p) (i0 : 0 ≤ i) (i1 : i < a_codes s p) (hk : (k = 0 → ¬ i + 1 < a_codes s p) ∧ (k ≠ 0 → ¬ a_codes s p ≤ i + 1)) : ok (M_Mo_formed_j52 p i (wd s p i) (iO (wd s p i)) k) s (Dc s (Wf s p i)) := by
  unfold M_Mo_formed_j52
  refine dcC (fun c => dcC (fun d => form82 h i0 i1 hk fun _ => Or.inl d) fun _ => dcC (fun d => form82 h i0 i1 hk fun _ => Or.inr (Or.inl d)) fun _ => dcC (fun d => form82 h i0 i1 hk fun _ => Or.inr (Or.inr d)) fun _ => dc0) fun c => form82 h i0 i1 hk fun z => absurd (Int32.not_le.mp (hk.2 c)) z
theorem formed_ok (s : S1) (p i : Int32) (hp : 0 ≤ p ∧ p < 251) (hk : 0 ≤ (a_codeAt s p).toInt ∧ (a_codeAt s p).toInt + (a_codes s p).toInt ≤ 20000) (i0 : 0 ≤ i) (i1 : i < a_codes s p) : ok (M_Mo_formed p i) s (fun v s' => s' = sI (sI s 31 0 p) 30 0 (a_registers s p) ∧ (v = 0 ∨ v = 1) ∧ (v ≠ 0 → Wf s p i)) := by
  have lk : Lk (sI (sI s 31 0 p) 30 0 (a_registers s p)) p := ⟨hp, by simp only [gI_sI, gI_sL, gI_sA, gI_sB, gI_sAf, gI_sBf, gL_sI, gL_sL, gL_sA, gL_sB, gL_sAf, gL_sBf, gA_sI, gA_sL, gA_sA, gA_sB, gA_sAf, gA_sBf, gB_sI, gB_sL, gB_sA, gB_sB, gB_sAf, gB_sBf, Nat.reduceEqDiff, Nat.reduceMul, Nat.reduceAdd, false_and, true_and, and_true, and_false, if_true, if_false], by simp only [a_registers, gI_sI, gI_sL, gI_sA, gI_sB, gI_sAf, gI_sBf, gL_sI, gL_sL, gL_sA, gL_sB, gL_sAf, gL_sBf, gA_sI, gA_sL, gA_sA, gA_sB, gA_sAf, gA_sBf, gB_sI, gB_sL, gB_sA, gB_sB, gB_sAf, gB_sBf, Nat.reduceEqDiff, Nat.reduceMul, Nat.reduceAdd, false_and, true_and, and_true, and_false, if_true, if_false], hk⟩
  have wf : ∀ z, Wf (sI (sI s 31 0 p) 30 0 (a_registers s p)) p z ↔ Wf s p z := fun z => Iff.rfl
  have i1' : i < a_codes (sI (sI s 31 0 p) 30 0 (a_registers s p)) p := i1
  have e44 : gA (sI s 31 0 p) 44 0 p = a_registers s p := rfl
  unfold M_Mo_formed M_Mo_op
  rw [ok_B, ok_PI, ok_B, ok_AI]
  refine ⟨hp, ?_⟩
  rw [e44, ok_B, ok_PI]
  have fin : ok (oB (oAI 49 251 0 p) fun v24 =>
      oB (oAI 55 20001 0 (v24 + i)) fun v27 =>
      oB (oR (v27 &&& 63)) fun v30 =>
      oB (oAI 50 251 0 p) fun v43 =>
      oC (v43 ≤ (i + 1))
        (M_Mo_formed_j52 p i v27 v30 0)
        (M_Mo_formed_j52 p i v27 v30 1)) (sI (sI s 31 0 p) 30 0 (a_registers s p)) (Dc (sI (sI s 31 0 p) 30 0 (a_registers s p)) (Wf (sI (sI s 31 0 p) 30 0 (a_registers s p)) p i)) := by
    generalize sI (sI s 31 0 p) 30 0 (a_registers s p) = z at *
    refine dcA hp (dcA (code_in lk i0 i1') (dcP (dcA hp (dcC (fun c => ?_) fun c => ?_))))
    · exact form52 lk i0 i1' ⟨fun _ w => absurd (Int32.lt_of_le_of_lt c w) Int32.lt_irrefl, fun w => absurd rfl w⟩
    · exact form52 lk i0 i1' ⟨fun w => absurd w (by decide), fun _ => c⟩
  exact ok_mono fin fun v s' ⟨a, b, c⟩ => ⟨a, b, fun w => (wf i).mp (c w)⟩
/-- what looking over leaves -/
def RdO (s s' : S1) : Prop := (∀ f i, f ≠ 3 → f ≠ 4 → f ≠ 30 → f ≠ 31 → gI s' f i = gI s f i) ∧ (∀ f i, gL s' f i = gL s f i) ∧ (∀ a i j, gA s' a i j = gA s a i j) ∧ (∀ a i j, gB s' a i j = gB s a i j) ∧ (f_fault s' = 0 → f_fault s = 0)
theorem RdO.refl (s : S1) : RdO s s := ⟨fun _ _ _ _ _ _ => rfl, fun _ _ => rfl, fun _ _ _ => rfl, fun _ _ _ => rfl, id⟩
theorem RdO.trans {a b c : S1} (h : RdO a b) (k : RdO b c) : RdO a c := ⟨fun f i q r t u => (k.1 f i q r t u).trans (h.1 f i q r t u), fun f i => (k.2.1 f i).trans (h.2.1 f i), fun x i j => (k.2.2.1 x i j).trans (h.2.2.1 x i j), fun x i j => (k.2.2.2.1 x i j).trans (h.2.2.2.1 x i j), fun z => h.2.2.2.2 (k.2.2.2.2 z)⟩
theorem RdO.wf {s s' : S1} (h : RdO s s') (p i : Int32) : Wf s' p i ↔ Wf s p i := by
  unfold Wf Wn Gs Rr Rq
  simp only [a_registers, a_upvalues, a_consts, a_codeAt, a_codes, a_children, a_code, h.2.2.1]
theorem bad_lo (s : S1) (c l : Int32) (hc : c ≠ 0) : ok (M_Mo_bad c l) s (fun _ s' => RdO s s' ∧ f_fault s' ≠ 0) := by
  simp only [M_Mo_bad, ok_B, ok_C, ok_R, ok_L, ok_K, ok_GI, ok_GL, ok_PI, ok_PL, ok_AI, ok_AL, ok_SI, ok_SL, ok_Pr, ok_CI, cmp_lt, cmp_le, cmp_gt, cmp_ge, cmp_eq, nar0, nar1, Sum.elim_inl, Sum.elim_inr]
  refine ⟨fun z => ⟨⟨fun f i q r t u => ?_, fun _ _ => rfl, fun _ _ _ => rfl, fun _ _ _ => rfl, fun w => z⟩, ?_⟩, fun z => ⟨RdO.refl s, z⟩⟩
  · simp only [gI_sI, gI_sL, gI_sA, gI_sB, gI_sAf, gI_sBf, gL_sI, gL_sL, gL_sA, gL_sB, gL_sAf, gL_sBf, gA_sI, gA_sL, gA_sA, gA_sB, gA_sAf, gA_sBf, gB_sI, gB_sL, gB_sA, gB_sB, gB_sAf, gB_sBf, Nat.reduceEqDiff, Nat.reduceMul, Nat.reduceAdd, false_and, true_and, and_true, and_false, if_true, if_false, q, r]
  · simp only [f_fault, gI_sI, gI_sL, gI_sA, gI_sB, gI_sAf, gI_sBf, gL_sI, gL_sL, gL_sA, gL_sB, gL_sAf, gL_sBf, gA_sI, gA_sL, gA_sA, gA_sB, gA_sAf, gA_sBf, gB_sI, gB_sL, gB_sA, gB_sB, gB_sAf, gB_sBf, Nat.reduceEqDiff, Nat.reduceMul, Nat.reduceAdd, false_and, true_and, and_true, and_false, if_true, if_false]
    exact hc
theorem lo_num {n i : Int32} (hn : n.toInt ≤ 20000) (i0 : 0 ≤ i) (c : ¬ n ≤ i) : 0 ≤ i + 1 ∧ i < n ∧ (n - (i + 1)).toNatClampNeg < (n - i).toNatClampNeg ∧ ∀ j, j < i + 1 → j = i ∨ j < i := by
  have c2 : (20000 : Int32).toInt = 20000 := rfl
  have hn' : n ≤ 20000 := by
    rw [i32_le, c2]
    exact hn
  clear hn
  refine ⟨by grind, by grind, clamp_lt (by grind) (by grind), fun j a => by grind⟩
theorem look19_ok (s : S1) (p : Int32) (hp : 0 ≤ p ∧ p < 251) (hk : 0 ≤ (a_codeAt s p).toInt ∧ (a_codeAt s p).toInt + (a_codes s p).toInt ≤ 20000) : ok (oW M_Mo_lookOver_L19 (p, 0)) s (fun y s' => y = p ∧ RdO s s' ∧ (f_fault s' = 0 → ∀ i, 0 ≤ i → i < a_codes s p → Wf s p i)) := by
  have hn : (a_codes s p).toInt ≤ 20000 := by omega
  refine ok_W (fun y z => y.1 = p ∧ 0 ≤ y.2 ∧ RdO s z ∧ (f_fault z = 0 → ∀ i, 0 ≤ i → i < y.2 → Wf s p i)) (fun y _ => (a_codes s p - y.2).toNatClampNeg) ?_ (p, 0) s ⟨rfl, (show (0 : Int32) ≤ 0 by decide), RdO.refl s, fun _ i a b => absurd (Int32.lt_of_le_of_lt a b) (show ¬ (0 : Int32) < 0 by decide)⟩
  rintro ⟨p', i⟩ z ⟨ep, i0, lo, hf⟩
  dsimp only at ep i0 hf
  rw [ep]
  have e50 : gA z 50 0 p = a_codes s p := lo.2.2.1 50 0 p
  have e49 : gA z 49 0 p = a_codeAt s p := lo.2.2.1 49 0 p
  unfold M_Mo_lookOver_L19
  dsimp only
  rw [ok_B, ok_AI]
  refine ⟨hp, ?_⟩
  rw [e50, ok_C]
  refine ⟨fun c => ?_, fun c => ?_⟩
  · rw [ok_R]
    exact ⟨rfl, lo, fun f j a b => hf f j a (Int32.lt_of_lt_of_le b c)⟩
  obtain ⟨n1, n2, n3, n4⟩ := lo_num hn i0 c
  rw [ok_B, ok_GI, ok_C]
  refine ⟨fun f => ?_, fun f => ?_⟩
  · rw [ok_B]
    refine ok_mono (formed_ok z p i hp (by show 0 ≤ (gA z 49 0 p).toInt ∧ (gA z 49 0 p).toInt + (gA z 50 0 p).toInt ≤ 20000; rw [e49, e50]; exact hk) i0 (by show i < gA z 50 0 p; rw [e50]; exact n2)) fun v s1 ⟨es, hv, hw⟩ => ?_
    have lo1 : RdO z s1 := by
      rw [es]
      refine ⟨fun g j q r t u => ?_, fun _ _ => rfl, fun _ _ _ => rfl, fun _ _ _ => rfl, fun w => ?_⟩
      · simp only [gI_sI, gI_sL, gI_sA, gI_sB, gI_sAf, gI_sBf, gL_sI, gL_sL, gL_sA, gL_sB, gL_sAf, gL_sBf, gA_sI, gA_sL, gA_sA, gA_sB, gA_sAf, gA_sBf, gB_sI, gB_sL, gB_sA, gB_sB, gB_sAf, gB_sBf, Nat.reduceEqDiff, Nat.reduceMul, Nat.reduceAdd, false_and, true_and, and_true, and_false, if_true, if_false, t, u]
      · simp only [f_fault, gI_sI, gI_sL, gI_sA, gI_sB, gI_sAf, gI_sBf, gL_sI, gL_sL, gL_sA, gL_sB, gL_sAf, gL_sBf, gA_sI, gA_sL, gA_sA, gA_sB, gA_sAf, gA_sBf, gB_sI, gB_sL, gB_sA, gB_sB, gB_sAf, gB_sBf, Nat.reduceEqDiff, Nat.reduceMul, Nat.reduceAdd, false_and, true_and, and_true, and_false, if_true, if_false] at w
        exact w
    have go : ∀ s2, RdO s1 s2 → (f_fault s2 = 0 → v ≠ 0) → ok (M_Mo_lookOver_j65 p i) s2 (fun y s' => Sum.elim (fun q => (q.1 = p ∧ 0 ≤ q.2 ∧ RdO s s' ∧ (f_fault s' = 0 → ∀ i, 0 ≤ i → i < q.2 → Wf s p i)) ∧ (a_codes s p - q.2).toNatClampNeg < (a_codes s p - i).toNatClampNeg) (fun y => y = p ∧ RdO s s' ∧ (f_fault s' = 0 → ∀ i, 0 ≤ i → i < a_codes s p → Wf s p i)) y) := fun s2 lo2 h2 => by
      unfold M_Mo_lookOver_j65
      rw [ok_R]
      refine ⟨⟨rfl, n1, (lo.trans lo1).trans lo2, fun f2 j a b => ?_⟩, n3⟩
      have f1 := lo1.2.2.2.2 (lo2.2.2.2.2 f2)
      rcases n4 j b with q | q
      · rw [q]
        exact (lo.wf p i).mp (hw (h2 f2))
      · exact hf f1 j a q
    rw [ok_C]
    refine ⟨fun d => ?_, fun d => go s1 (RdO.refl s1) fun _ => d⟩
    have e49' : gA s1 49 0 p = a_codeAt s p := (lo1.2.2.1 49 0 p).trans e49
    have c0 : (0 : Int32).toInt = 0 := rfl
    have i0' := i0
    have n2' := n2
    rw [i32_le, c0] at i0'
    rw [i32_lt] at n2'
    have y := tI_add (a := a_codeAt s p) (b := i) (by omega)
    rw [ok_B, ok_AI]
    refine ⟨hp, ?_⟩
    rw [e49', ok_B, ok_AI]
    refine ⟨i32_in 20001 rfl (by omega), ?_⟩
    rw [ok_B]
    exact ok_mono (bad_lo s1 6 _ (by decide)) fun _ s2 ⟨lo2, f2⟩ => go s2 lo2 fun w => absurd w f2
  · rw [ok_R]
    exact ⟨rfl, lo, fun w => absurd w f⟩
theorem lookOver_ok (s : S1) (hP : 0 ≤ nuP s ∧ nuP s ≤ 250) (hk : ∀ p : Int32, 0 ≤ p.toInt → p.toInt < nuP s → 0 ≤ (a_codeAt s p).toInt ∧ (a_codeAt s p).toInt + (a_codes s p).toInt ≤ 20000) : ok M_Mo_lookOver s (fun _ s' => RdO s s' ∧ (f_fault s' = 0 → ∀ p, 0 ≤ p → p < f_protos s → ∀ i, 0 ≤ i → i < a_codes s p → Wf s p i)) := by
  have c0 : (0 : Int32).toInt = 0 := rfl
  have eP : (f_protos s).toInt = nuP s := rfl
  unfold M_Mo_lookOver
  rw [ok_B]
  refine ok_mono (ok_W (Q := fun _ s' => RdO s s' ∧ (f_fault s' = 0 → ∀ p, 0 ≤ p → p < f_protos s → ∀ i, 0 ≤ i → i < a_codes s p → Wf s p i)) (fun x z => 0 ≤ x ∧ RdO s z ∧ (f_fault z = 0 → ∀ p, 0 ≤ p → p < x → p < f_protos s → ∀ i, 0 ≤ i → i < a_codes s p → Wf s p i)) (fun x _ => (f_protos s - x).toNatClampNeg) ?_ (0 : Int32) s ⟨(show (0 : Int32) ≤ 0 by decide), RdO.refl s, fun _ p a b => absurd (Int32.lt_of_le_of_lt a b) Int32.lt_irrefl⟩) fun _ s' w => by rw [ok_R]; exact w
  rintro x z ⟨x0, lo, hf⟩
  have e23 : gI z 23 0 = f_protos s := lo.1 23 0 (by decide) (by decide) (by decide) (by decide)
  unfold M_Mo_lookOver_L2
  rw [ok_B, ok_GI, e23, ok_C]
  refine ⟨fun c => ?_, fun c => ?_⟩
  · rw [ok_R]
    exact ⟨lo, fun f p a b => hf f p a (Int32.lt_of_lt_of_le b c) b⟩
  obtain ⟨n1, n2, n3, n4⟩ := lo_num (n := f_protos s) (by omega) x0 c
  have x0' := x0
  have n2' := n2
  rw [i32_le, c0] at x0'
  rw [i32_lt] at n2'
  rw [ok_B, ok_GI, ok_C]
  refine ⟨fun f => ?_, fun f => ?_⟩
  · rw [ok_B]
    have kz := hk x x0' (by omega)
    have e49 : a_codeAt z x = a_codeAt s x := lo.2.2.1 49 0 x
    have e50 : a_codes z x = a_codes s x := lo.2.2.1 50 0 x
    refine ok_mono (look19_ok z x (i32_in 251 rfl (by omega)) (by rw [e49, e50]; exact kz)) fun y s2 ⟨ey, lo2, h2⟩ => ?_
    rw [ey]
    unfold M_Mo_lookOver_j71
    rw [ok_R]
    refine ⟨⟨n1, lo.trans lo2, fun f2 p a b d i i0 i1 => ?_⟩, n3⟩
    rcases n4 p b with q | q
    · rw [q] at i1 ⊢
      rw [e50] at h2
      exact (lo.wf x i).mp (h2 f2 i i0 i1)
    · exact hf (lo2.2.2.2.2 f2) p a q d i i0 i1
  · rw [ok_R]
    exact ⟨lo, fun w => absurd w f⟩
