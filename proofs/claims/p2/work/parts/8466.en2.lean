/-! A function is entered. -/
def Sk (s v : S1) : Prop := GG v ∧ (∀ f i, gI v f i = gI s f i) ∧ (∀ f i, gL v f i = gL s f i) ∧ (∀ a i j, a ≠ 20 → gA v a i j = gA s a i j) ∧ ∀ a i j, a ≠ 21 → gB v a i j = gB s a i j
theorem Sk.refl {s : S1} (h : GG s) : Sk s s := ⟨h, fun _ _ => rfl, fun _ _ => rfl, fun _ _ _ _ => rfl, fun _ _ _ _ => rfl⟩
theorem Sk.rx {s v : S1} (h : Sk s v) (hz : f_noCollection s = 0) : Rx s v := by
  refine Rx.hy h.1 ⟨fun f i _ => h.2.1 f i, fun a i j q => h.2.2.2.1 a i j (fun e => ?_), fun i j => h.2.2.2.2 3 i j (by decide)⟩ hz
  rw [e] at q
  exact absurd q (by decide)
theorem Vl.sk {s v : S1} {k : Int32} {w : Int64} (h : Sk s v) : Vl false v k w ↔ Vl false s k w := by
  unfold Vl Lv
  simp only [f_used, a_sort, a_marked, h.2.1, h.2.2.2.1 58 _ _ (by decide), h.2.2.2.1 59 _ _ (by decide)]
theorem en_set {s v z : S1} {x b e : Int32} (c i k : Int32) (w : Int64) (h : Sk s v) (hp : Pw v z x b e) (hi : 0 ≤ i ∧ i < 4300) (hv : Vl false s k w) : Sk s (sB (sA v 20 c i k) 21 c i w) ∧ Pw (sB (sA v 20 c i k) 21 c i w) (sB (sA z 20 c i k) 21 c i w) x b e := by
  obtain ⟨_, s', _, es, ss⟩ := ok_out (setS_ok v c i k w hi ((Vl.sk h).mpr hv))
  have g := h.1.ss ss
  rw [es] at g
  refine ⟨⟨g, h.2.1, h.2.2.1, fun a u j q => ?_, fun a u j q => ?_⟩, hp.set c i k w⟩
  · rw [gA_sB, gA_sA, if_neg (fun z => q z.1)]
    exact h.2.2.2.1 a u j q
  · rw [gB_sB, if_neg (fun z => q z.1), gB_sA]
    exact h.2.2.2.2 a u j q
theorem setz_ok (z : S1) (t i j : Int32) (hi : 0 ≤ i ∧ i < 4300) (hj : 0 ≤ j ∧ j < 400) (hv : 0 ≤ gA z 8 0 j ∧ gA z 8 0 j ≤ 8) : ok (M_Va_set_ 19 t i 7 0 j) z (fun _ z' => z' = sB (sA z 20 t i (gA z 8 0 j)) 21 t i (gB z 9 0 j)) := by
  simp only [M_Va_set_, ok_B, ok_C, ok_R, ok_L, ok_K, ok_GI, ok_GL, ok_PI, ok_PL, ok_AI, ok_AL, ok_SI, ok_SL, ok_Pr, ok_CI, cmp_lt, cmp_le, cmp_gt, cmp_ge, cmp_eq, nar0, nar1, Sum.elim_inl, Sum.elim_inr, Nat.reduceAdd, i8_id hv]
  exact ⟨hj, hi, hj, hi, rfl⟩
theorem setn_ok (z : S1) (t i : Int32) (hi : 0 ≤ i ∧ i < 4300) : ok (M_Va_set 19 t i 0 0) z (fun _ z' => z' = sB (sA z 20 t i 0) 21 t i 0) := by
  simp only [M_Va_set, ok_B, ok_C, ok_R, ok_L, ok_K, ok_GI, ok_GL, ok_PI, ok_PL, ok_AI, ok_AL, ok_SI, ok_SL, ok_Pr, ok_CI, cmp_lt, cmp_le, cmp_gt, cmp_ge, cmp_eq, nar0, nar1, Sum.elim_inl, Sum.elim_inr, Nat.reduceAdd]
  exact ⟨hi, hi, rfl⟩
theorem en_num {b e i L : Int32} (hb : 0 ≤ b ∧ b + e ≤ L) (he : 0 ≤ e ∧ e ≤ 255) (hL : L ≤ 4000) (hb2 : b ≤ 4000) (i0 : 0 ≤ i) (c : ¬ e ≤ i) : (0 ≤ b + i ∧ b + i < 4300) ∧ (0 ≤ i + 1 ∧ i + 1 ≤ e) ∧ (e - (i + 1)).toNatClampNeg < (e - i).toNatClampNeg ∧ ∀ j, j < b + (i + 1) → j = b + i ∨ (j ≠ b + i ∧ j < b + i) := by
  have c0 : (0 : Int32).toInt = 0 := rfl
  have c1 : (1 : Int32).toInt = 1 := rfl
  have c2 : (255 : Int32).toInt = 255 := rfl
  have c3 : (4300 : Int32).toInt = 4300 := rfl
  have c4 : (4000 : Int32).toInt = 4000 := rfl
  have c' := Int32.not_le.mp c
  simp only [i32_le, i32_lt, c0, c2, c3, c4] at *
  have y1 := tI_add (a := b) (b := e) (by omega)
  have y2 := tI_add (a := b) (b := i) (by omega)
  have y3 := tI_add (a := i) (b := 1) (by omega)
  have y4 := tI_add (a := b) (b := i + 1) (by omega)
  have y5 := tI_sub (a := e) (b := i + 1) (by omega)
  have y6 := tI_sub (a := e) (b := i) (by omega)
  refine ⟨by omega, by omega, ?_, fun j h => ?_⟩
  · unfold Int32.toNatClampNeg
    omega
  · by_cases q : j.toInt = (b + i).toInt
    · exact Or.inl (Int32.toInt_inj.mp q)
    · exact Or.inr ⟨fun w => q (by rw [w]), by omega⟩
theorem ar_num {p e i n : Int32} (hp : 0 ≤ p ∧ p ≤ 250) (he : 0 ≤ e ∧ e ≤ 250) (hn : n ≤ 250) (hs : p + e ≤ n) (i0 : 0 ≤ i) (c : ¬ e ≤ i) : (0 ≤ p + i ∧ p + i < 400) ∧ p + i < n := by
  have c0 : (0 : Int32).toInt = 0 := rfl
  have c2 : (250 : Int32).toInt = 250 := rfl
  have c4 : (400 : Int32).toInt = 400 := rfl
  have c' := Int32.not_le.mp c
  simp only [i32_le, i32_lt, c0, c2, c4] at *
  have y1 := tI_add (a := p) (b := e) (by omega)
  have y2 := tI_add (a := p) (b := i) (by omega)
  omega
theorem en_ar {s v z : S1} {x b e j : Int32} (h : GG s) (hs : Sk s v) (hp : Pw v z x b e) (hj : 0 ≤ j ∧ j < 400) (hn : j < gI s 898 0) : gA z 8 0 j = gA s 8 0 j ∧ gB z 9 0 j = gB s 9 0 j ∧ Vl false s (gA s 8 0 j) (gB s 9 0 j) ∧ 0 ≤ gA z 8 0 j ∧ gA z 8 0 j ≤ 8 := by
  have e1 : gA z 8 0 j = gA s 8 0 j := (hp.A 8 (by decide) 0 j).trans (hs.2.2.2.1 8 0 j (by decide))
  have e2 : gB z 9 0 j = gB s 9 0 j := (hp.B 9 0 j).trans (hs.2.2.2.2 9 0 j (by decide))
  have vl : Vl false s (gA s 8 0 j) (gB s 9 0 j) := h.2.2.2.1.2.2.2.2.2.1 j hj.1 hn
  rw [e1]
  exact ⟨rfl, e2, vl, vl.kind⟩
theorem en139_ok (s z0 : S1) (x p e b : Int32) (h : GG s) (hc : 0 ≤ cu s ∧ cu s < 33) (hp : 0 ≤ p ∧ p < 251) (he : 0 ≤ e ∧ e ≤ 250) (hb : 0 ≤ b ∧ b + e ≤ 4000) (hb2 : b ≤ 4000) (hpar : 0 ≤ a_params s p ∧ a_params s p ≤ 250) (hn : gI s 898 0 ≤ 250) (hs : e = 0 ∨ a_params s p + e ≤ gI s 898 0) (h0 : Pw s z0 x (b + e) e) :
    ok (oW M_Mo_enter_L139 (cu s, p, e, b, 0)) z0 (fun y z => y = (cu s, p, e, b) ∧ ∃ v, Sk s v ∧ Pw v z x (b + e) e ∧ ∀ j, b ≤ j → j < b + e → Vl false s (v_stack_k v (cu s) j) (v_stack_v v (cu s) j)) := by
  refine ok_W (fun y z => (y.1 = cu s ∧ y.2.1 = p ∧ y.2.2.1 = e ∧ y.2.2.2.1 = b) ∧ (0 ≤ y.2.2.2.2 ∧ y.2.2.2.2 ≤ e) ∧ ∃ v, Sk s v ∧ Pw v z x (b + e) e ∧ ∀ j, b ≤ j → j < b + y.2.2.2.2 → Vl false s (v_stack_k v (cu s) j) (v_stack_v v (cu s) j)) (fun y _ => (e - y.2.2.2.2).toNatClampNeg) ?_ (cu s, p, e, b, 0) z0 ⟨⟨rfl, rfl, rfl, rfl⟩, ⟨(show (0 : Int32) ≤ 0 by decide), he.1⟩, s, Sk.refl h, h0, fun j a c => ?_⟩
  · rintro ⟨y1, y2, y3, y4, i⟩ z ⟨⟨e1, e2, e3, e4⟩, ⟨i0, i1⟩, v, sk, pw, hv⟩
    dsimp only at e1 e2 e3 e4 i0 i1 hv
    rw [e1, e2, e3, e4]
    simp only [M_Mo_enter_L139, ok_B, ok_C, ok_R, ok_L, ok_K, ok_GI, ok_GL, ok_PI, ok_PL, ok_AI, ok_AL, ok_SI, ok_SL, ok_Pr, ok_CI, cmp_lt, cmp_le, cmp_gt, cmp_ge, cmp_eq, nar0, nar1, Sum.elim_inl, Sum.elim_inr]
    refine ⟨fun c => ⟨by trivial, v, sk, pw, fun j a d => hv j a ?_⟩, fun c => ⟨hc, hp, ?_⟩⟩
    · rw [Int32.le_antisymm i1 c]
      exact d
    · have ep : gA z 42 0 p = a_params s p := (pw.A 42 (by decide) 0 p).trans (sk.2.2.2.1 42 0 p (by decide))
      rw [ep]
      have hs' : a_params s p + e ≤ gI s 898 0 := by
        rcases hs with w | w
        · rw [w] at c
          exact absurd i0 c
        · exact w
      obtain ⟨m1, m2⟩ := ar_num hpar he hn hs' i0 c
      obtain ⟨n1, n2, n3, n4⟩ := en_num hb ⟨he.1, Int32.le_trans he.2 (by decide)⟩ (Int32.le_refl _) hb2 i0 c
      obtain ⟨r1, r2, r3, r4⟩ := en_ar h sk pw m1 m2
      refine ok_mono (setz_ok z (cu s) (b + i) (a_params s p + i) n1 m1 r4) fun _ z' ez => ?_
      rw [r1, r2] at ez
      obtain ⟨sk', pw'⟩ := en_set (cu s) (b + i) _ _ sk pw n1 r3
      refine ⟨⟨⟨by trivial, by trivial, by trivial, by trivial⟩, n2, _, sk', by rw [ez]; exact pw', fun j a d => ?_⟩, n3⟩
      rcases n4 j d with q | ⟨q, q2⟩
      · rw [q]
        simp only [v_stack_k, v_stack_v, gI_sI, gI_sL, gI_sA, gI_sB, gI_sAf, gI_sBf, gL_sI, gL_sL, gL_sA, gL_sB, gL_sAf, gL_sBf, gA_sI, gA_sL, gA_sA, gA_sB, gA_sAf, gA_sBf, gB_sI, gB_sL, gB_sA, gB_sB, gB_sAf, gB_sBf, Nat.reduceEqDiff, Nat.reduceMul, Nat.reduceAdd, false_and, true_and, and_true, and_false, if_true, if_false]
        exact r3
      · simp only [v_stack_k, v_stack_v, gI_sI, gI_sL, gI_sA, gI_sB, gI_sAf, gI_sBf, gL_sI, gL_sL, gL_sA, gL_sB, gL_sAf, gL_sBf, gA_sI, gA_sL, gA_sA, gA_sB, gA_sAf, gA_sBf, gB_sI, gB_sL, gB_sA, gB_sB, gB_sAf, gB_sBf, Nat.reduceEqDiff, Nat.reduceMul, Nat.reduceAdd, false_and, true_and, and_true, and_false, if_true, if_false, q]
        exact hv j a q2
  · rw [Int32.add_zero] at c
    exact absurd (Int32.lt_of_le_of_lt a c) Int32.lt_irrefl
theorem en180_ok (s z0 v0 : S1) (x p e b : Int32) (h : GG s) (hc : 0 ≤ cu s ∧ cu s < 33) (hp : 0 ≤ p ∧ p < 251) (hb : 0 ≤ b + e ∧ b + e + a_registers s p ≤ 4000) (hb2 : b + e ≤ 4000) (hreg : 0 ≤ a_registers s p ∧ a_registers s p ≤ 250) (hn : gI s 898 0 ≤ 250) (hbe : b ≤ b + e) (s0 : Sk s v0) (p0 : Pw v0 z0 x (b + e) e) (w0 : ∀ j, b ≤ j → j < b + e → Vl false s (v_stack_k v0 (cu s) j) (v_stack_v v0 (cu s) j)) :
    ok (oW M_Mo_enter_L180 (cu s, p, e, b, 0)) z0 (fun _ z => ∃ v, Sk s v ∧ Pw v z x (b + e) e ∧ ∀ j, b ≤ j → j < b + e + a_registers s p → Vl false s (v_stack_k v (cu s) j) (v_stack_v v (cu s) j)) := by
  refine ok_W (fun y z => (y.1 = cu s ∧ y.2.1 = p ∧ y.2.2.1 = e ∧ y.2.2.2.1 = b) ∧ (0 ≤ y.2.2.2.2 ∧ y.2.2.2.2 ≤ a_registers s p) ∧ ∃ v, Sk s v ∧ Pw v z x (b + e) e ∧ ∀ j, b ≤ j → j < b + e + y.2.2.2.2 → Vl false s (v_stack_k v (cu s) j) (v_stack_v v (cu s) j)) (fun y _ => (a_registers s p - y.2.2.2.2).toNatClampNeg) ?_ (cu s, p, e, b, 0) z0 ⟨⟨rfl, rfl, rfl, rfl⟩, ⟨(show (0 : Int32) ≤ 0 by decide), hreg.1⟩, v0, s0, p0, fun j a c => w0 j a (by rw [Int32.add_zero] at c; exact c)⟩
  rintro ⟨y1, y2, y3, y4, i⟩ z ⟨⟨e1, e2, e3, e4⟩, ⟨i0, i1⟩, v, sk, pw, hv⟩
  dsimp only at e1 e2 e3 e4 i0 i1 hv
  rw [e1, e2, e3, e4]
  have er : gA z 44 0 p = a_registers s p := (pw.A 44 (by decide) 0 p).trans (sk.2.2.2.1 44 0 p (by decide))
  have en : gI z 898 0 = gI s 898 0 := (pw.I 898 (by decide) 0).trans (sk.2.1 898 0)
  simp only [M_Mo_enter_L180, M_Mo_enter_j238, M_Mo_enter_j255, ok_B, ok_C, ok_R, ok_L, ok_K, ok_GI, ok_GL, ok_PI, ok_PL, ok_AI, ok_AL, ok_SI, ok_SL, ok_Pr, ok_CI, cmp_lt, cmp_le, cmp_gt, cmp_ge, cmp_eq, nar0, nar1, Sum.elim_inl, Sum.elim_inr]
  rw [er, en]
  refine ⟨hp, fun c => ⟨v, sk, pw, fun j a d => hv j a ?_⟩, fun c => ?_⟩
  · rw [Int32.le_antisymm i1 c]
    exact d
  obtain ⟨n1, n2, n3, n4⟩ := en_num hb ⟨hreg.1, Int32.le_trans hreg.2 (by decide)⟩ (Int32.le_refl _) hb2 i0 c
  have nil : ok (M_Va_set 19 (cu s) (b + e + i) 0 0) z (fun _ s' => ((True ∧ True ∧ True ∧ True) ∧ (0 ≤ i + 1 ∧ i + 1 ≤ a_registers s p) ∧ ∃ v, Sk s v ∧ Pw v s' x (b + e) e ∧ ∀ j, b ≤ j → j < b + e + (i + 1) → Vl false s (v_stack_k v (cu s) j) (v_stack_v v (cu s) j)) ∧ (a_registers s p - (i + 1)).toNatClampNeg < (a_registers s p - i).toNatClampNeg) := by
    refine ok_mono (setn_ok z (cu s) (b + e + i) n1) fun _ z' ez => ?_
    obtain ⟨sk', pw'⟩ := en_set (cu s) (b + e + i) 0 0 sk pw n1 (Or.inl ⟨by decide, by decide⟩)
    refine ⟨⟨⟨trivial, trivial, trivial, trivial⟩, n2, _, sk', by rw [ez]; exact pw', fun j a d => ?_⟩, n3⟩
    rcases n4 j d with q | ⟨q, q2⟩
    · rw [q]
      simp only [v_stack_k, v_stack_v, gI_sI, gI_sL, gI_sA, gI_sB, gI_sAf, gI_sBf, gL_sI, gL_sL, gL_sA, gL_sB, gL_sAf, gL_sBf, gA_sI, gA_sL, gA_sA, gA_sB, gA_sAf, gA_sBf, gB_sI, gB_sL, gB_sA, gB_sB, gB_sAf, gB_sBf, Nat.reduceEqDiff, Nat.reduceMul, Nat.reduceAdd, false_and, true_and, and_true, and_false, if_true, if_false]
      exact Or.inl ⟨by decide, by decide⟩
    · simp only [v_stack_k, v_stack_v, gI_sI, gI_sL, gI_sA, gI_sB, gI_sAf, gI_sBf, gL_sI, gL_sL, gL_sA, gL_sB, gL_sAf, gL_sBf, gA_sI, gA_sL, gA_sA, gA_sB, gA_sAf, gA_sBf, gB_sI, gB_sL, gB_sA, gB_sB, gB_sAf, gB_sBf, Nat.reduceEqDiff, Nat.reduceMul, Nat.reduceAdd, false_and, true_and, and_true, and_false, if_true, if_false, q]
      exact hv j a q2
  refine ⟨hp, fun _ => ⟨hc, nil⟩, fun c2 => ⟨fun _ => ⟨hc, nil⟩, fun c3 => ⟨hc, ?_⟩⟩⟩
  have m2 : i < gI s 898 0 := Int32.not_le.mp c3
  have m1 : 0 ≤ i ∧ i < 400 := ⟨i0, Int32.lt_of_lt_of_le m2 (Int32.le_trans hn (by decide))⟩
  obtain ⟨r1, r2, r3, r4⟩ := en_ar h sk pw m1 m2
  refine ok_mono (setz_ok z (cu s) (b + e + i) i n1 m1 r4) fun _ z' ez => ?_
  rw [r1, r2] at ez
  obtain ⟨sk', pw'⟩ := en_set (cu s) (b + e + i) _ _ sk pw n1 r3
  refine ⟨⟨⟨trivial, trivial, trivial, trivial⟩, n2, _, sk', by rw [ez]; exact pw', fun j a d => ?_⟩, n3⟩
  rcases n4 j d with q | ⟨q, q2⟩
  · rw [q]
    simp only [v_stack_k, v_stack_v, gI_sI, gI_sL, gI_sA, gI_sB, gI_sAf, gI_sBf, gL_sI, gL_sL, gL_sA, gL_sB, gL_sAf, gL_sBf, gA_sI, gA_sL, gA_sA, gA_sB, gA_sAf, gA_sBf, gB_sI, gB_sL, gB_sA, gB_sB, gB_sAf, gB_sBf, Nat.reduceEqDiff, Nat.reduceMul, Nat.reduceAdd, false_and, true_and, and_true, and_false, if_true, if_false]
    exact r3
  · simp only [v_stack_k, v_stack_v, gI_sI, gI_sL, gI_sA, gI_sB, gI_sAf, gI_sBf, gL_sI, gL_sL, gL_sA, gL_sB, gL_sAf, gL_sBf, gA_sI, gA_sL, gA_sA, gA_sB, gA_sAf, gA_sBf, gB_sI, gB_sL, gB_sA, gB_sB, gB_sAf, gB_sBf, Nat.reduceEqDiff, Nat.reduceMul, Nat.reduceAdd, false_and, true_and, and_true, and_false, if_true, if_false, q]
    exact hv j a q2
/-- what a call leaves -/
def Oc (b s : S1) : Prop := Out s ∧ (f_todo s ≠ 0 → jA s ≤ jA b ∧ (f_todo s = 1 → sF b < sF s))
theorem Oz.oc {b s : S1} (h : Oz b s) : Oc b s := ⟨h.1, fun _ => h.2.2⟩
theorem en79_oc (s : S1) (h : RI true s) (hh : gI s 2050 0 = 0) : ok M_Mo_enter_j79 s (fun _ s' => Oc s s') := by
  simp only [M_Mo_enter_j79, ok_B, ok_C, ok_R, ok_L, ok_K, ok_GI, ok_GL, ok_PI, ok_PL, ok_AI, ok_AL, ok_SI, ok_SL, ok_Pr, ok_CI, cmp_lt, cmp_le, cmp_gt, cmp_ge, cmp_eq, nar0, nar1, Sum.elim_inl, Sum.elim_inr]
  have ag := zero7 h.1
  have rx := ag.rx (Or.inl rfl) h.2.1
  have r1 := h.rx rx
  have h1 : gI (sI s 898 0 0) 2050 0 = 0 := (ag.2.1 2050 0 (by decide)).trans hh
  generalize sI s 898 0 0 = z at *
  exact ok_mono (raise_bo z 4 r1.1 r1.2.1 h1) fun _ s' b => (Oz.bo r1 b (Nat.le_of_eq rx.ms.1)).oc
theorem push0_ok (s : S1) (x : Int32) (hc : 0 ≤ cu s ∧ cu s < 33) (hn : 0 ≤ t_frames s (cu s) ∧ t_frames s (cu s) ≤ 200) (h2 : t_frames s (cu s) ≠ 200) : ok (M_Mo_push 0 x) s (fun _ z => z = sA (sA (sA (sA (sA (sI s 3586 (cu s) (t_frames s (cu s) + 1)) 30 (cu s) (t_frames s (cu s)) 0) 31 (cu s) (t_frames s (cu s)) x) 36 (cu s) (t_frames s (cu s)) 0) 34 (cu s) (t_frames s (cu s)) 0) 37 (cu s) (t_frames s (cu s)) 0) := by
  obtain ⟨n1, n2, n3, n4, n5⟩ := ph_num hn h2
  have ec : gI s 72 0 = cu s := rfl
  have en : gI s 3586 (cu s) = t_frames s (cu s) := rfl
  simp only [M_Mo_push, ok_B, ok_C, ok_R, ok_L, ok_K, ok_GI, ok_GL, ok_PI, ok_PL, ok_AI, ok_AL, ok_SI, ok_SL, ok_Pr, ok_CI, cmp_lt, cmp_le, cmp_gt, cmp_ge, cmp_eq, nar0, nar1, Sum.elim_inl, Sum.elim_inr]
  rw [ec, en]
  exact ⟨hc, fun c => absurd c h2, fun _ => ⟨hc, hc, n2, hc, n2, hc, n2, hc, n2, hc, n2, by trivial⟩⟩
theorem push0_pw (s : S1) (x b e : Int32) : Pw s (sA (sA (sA (sA (sA (sA (sA (sA (sI s 3586 (cu s) (t_frames s (cu s) + 1)) 30 (cu s) (t_frames s (cu s)) 0) 31 (cu s) (t_frames s (cu s)) x) 36 (cu s) (t_frames s (cu s)) 0) 34 (cu s) (t_frames s (cu s)) 0) 37 (cu s) (t_frames s (cu s)) 0) 32 (cu s) (t_frames s (cu s)) 0) 34 (cu s) (t_frames s (cu s)) e) 33 (cu s) (t_frames s (cu s)) b) x b e := by
  refine ⟨fun f i q => ?_, ?_, fun _ _ => rfl, fun a i j q => ?_, fun _ _ _ => rfl, ?_, ?_, ?_, ?_, ?_, ?_⟩
  · simp only [gI_sI, gI_sL, gI_sA, gI_sB, gI_sAf, gI_sBf, gL_sI, gL_sL, gL_sA, gL_sB, gL_sAf, gL_sBf, gA_sI, gA_sL, gA_sA, gA_sB, gA_sAf, gA_sBf, gB_sI, gB_sL, gB_sA, gB_sB, gB_sAf, gB_sBf, Nat.reduceEqDiff, Nat.reduceMul, Nat.reduceAdd, false_and, true_and, and_true, and_false, if_true, if_false]
    rw [if_neg (fun w => q.elim (fun z => z w.1) (fun z => z w.2))]
  · simp only [t_frames, gI_sI, gI_sL, gI_sA, gI_sB, gI_sAf, gI_sBf, gL_sI, gL_sL, gL_sA, gL_sB, gL_sAf, gL_sBf, gA_sI, gA_sL, gA_sA, gA_sB, gA_sAf, gA_sBf, gB_sI, gB_sL, gB_sA, gB_sB, gB_sAf, gB_sBf, Nat.reduceEqDiff, Nat.reduceMul, Nat.reduceAdd, false_and, true_and, and_true, and_false, if_true, if_false]
  · have no : ∀ b, b = 30 ∨ b = 31 ∨ b = 32 ∨ b = 33 ∨ b = 34 ∨ b = 36 ∨ b = 37 → ¬ (a = b ∧ i = cu s ∧ j = t_frames s (cu s)) := fun b hb w => by
      rcases q with q | q | q
      · rcases hb with e | e | e | e | e | e | e <;> subst e
        · exact q.1 w.1
        · exact q.2.1 w.1
        · exact q.2.2.1 w.1
        · exact q.2.2.2.1 w.1
        · exact q.2.2.2.2.1 w.1
        · exact q.2.2.2.2.2.1 w.1
        · exact q.2.2.2.2.2.2 w.1
      · exact q w.2.1
      · exact q w.2.2
    rw [gA_sA, if_neg (no 33 (by decide)), gA_sA, if_neg (no 34 (by decide)), gA_sA, if_neg (no 32 (by decide)), gA_sA, if_neg (no 37 (by decide)), gA_sA, if_neg (no 34 (by decide)), gA_sA, if_neg (no 36 (by decide)), gA_sA, if_neg (no 31 (by decide)), gA_sA, if_neg (no 30 (by decide)), gA_sI]
  · simp only [t_kind, gI_sI, gI_sL, gI_sA, gI_sB, gI_sAf, gI_sBf, gL_sI, gL_sL, gL_sA, gL_sB, gL_sAf, gL_sBf, gA_sI, gA_sL, gA_sA, gA_sB, gA_sAf, gA_sBf, gB_sI, gB_sL, gB_sA, gB_sB, gB_sAf, gB_sBf, Nat.reduceEqDiff, Nat.reduceMul, Nat.reduceAdd, false_and, true_and, and_true, and_false, if_true, if_false]
  · simp only [t_function, gI_sI, gI_sL, gI_sA, gI_sB, gI_sAf, gI_sBf, gL_sI, gL_sL, gL_sA, gL_sB, gL_sAf, gL_sBf, gA_sI, gA_sL, gA_sA, gA_sB, gA_sAf, gA_sBf, gB_sI, gB_sL, gB_sA, gB_sB, gB_sAf, gB_sBf, Nat.reduceEqDiff, Nat.reduceMul, Nat.reduceAdd, false_and, true_and, and_true, and_false, if_true, if_false]
  · simp only [t_pc, gI_sI, gI_sL, gI_sA, gI_sB, gI_sAf, gI_sBf, gL_sI, gL_sL, gL_sA, gL_sB, gL_sAf, gL_sBf, gA_sI, gA_sL, gA_sA, gA_sB, gA_sAf, gA_sBf, gB_sI, gB_sL, gB_sA, gB_sB, gB_sAf, gB_sBf, Nat.reduceEqDiff, Nat.reduceMul, Nat.reduceAdd, false_and, true_and, and_true, and_false, if_true, if_false]
  · simp only [t_base, gI_sI, gI_sL, gI_sA, gI_sB, gI_sAf, gI_sBf, gL_sI, gL_sL, gL_sA, gL_sB, gL_sAf, gL_sBf, gA_sI, gA_sL, gA_sA, gA_sB, gA_sAf, gA_sBf, gB_sI, gB_sL, gB_sA, gB_sB, gB_sAf, gB_sBf, Nat.reduceEqDiff, Nat.reduceMul, Nat.reduceAdd, false_and, true_and, and_true, and_false, if_true, if_false]
  · simp only [t_extra, gI_sI, gI_sL, gI_sA, gI_sB, gI_sAf, gI_sBf, gL_sI, gL_sL, gL_sA, gL_sB, gL_sAf, gL_sBf, gA_sI, gA_sL, gA_sA, gA_sB, gA_sAf, gA_sBf, gB_sI, gB_sL, gB_sA, gB_sB, gB_sAf, gB_sBf, Nat.reduceEqDiff, Nat.reduceMul, Nat.reduceAdd, false_and, true_and, and_true, and_false, if_true, if_false]
  · simp only [t_rowCount, gI_sI, gI_sL, gI_sA, gI_sB, gI_sAf, gI_sBf, gL_sI, gL_sL, gL_sA, gL_sB, gL_sAf, gL_sBf, gA_sI, gA_sL, gA_sA, gA_sB, gA_sAf, gA_sBf, gB_sI, gB_sL, gB_sA, gB_sB, gB_sAf, gB_sBf, Nat.reduceEqDiff, Nat.reduceMul, Nat.reduceAdd, false_and, true_and, and_true, and_false, if_true, if_false]
theorem sum_num {b e r : Int32} (hb : 0 ≤ b ∧ b ≤ 4000) (he : 0 ≤ e ∧ e ≤ 250) (hr : 0 ≤ r ∧ r ≤ 250) (hl : b + e + r ≤ 4000) : (0 ≤ b ∧ b + e ≤ 4000) ∧ 0 ≤ b + e ∧ b ≤ b + e ∧ e ≤ b + e ∧ (∀ i, b + e - e ≤ i → b ≤ i) ∧ ∀ i, i < b + e - e + (r + e) → i < b + e + r := by
  have c0 : (0 : Int32).toInt = 0 := rfl
  have c2 : (250 : Int32).toInt = 250 := rfl
  have c4 : (4000 : Int32).toInt = 4000 := rfl
  simp only [i32_le, i32_lt, c0, c2, c4] at *
  have y1 := tI_add (a := b) (b := e) (by omega)
  have y2 := tI_add (a := b + e) (b := r) (by omega)
  have y3 := tI_sub (a := b + e) (b := e) (by omega)
  have y4 := tI_add (a := r) (b := e) (by omega)
  have y5 := tI_add (a := b + e - e) (b := r + e) (by omega)
  refine ⟨by omega, by omega, by omega, by omega, fun i h => by omega, fun i h => by omega⟩
theorem enter44_ok (s : S1) (x p e : Int32) (h : RI true s) (hh : v_hand_n s = 0) (htd : f_todo s = 0) (ha : gI s 898 0 ≤ 250) (hx : Lv false s x 6) (hp : a_first s x = p) (hf : 0 ≤ p ∧ p < f_protos s) (he : 0 ≤ e ∧ e ≤ 250) (hs : e = 0 ∨ a_params s p + e ≤ gI s 898 0) : ok (M_Mo_enter_j44 x (cu s) p e) s (fun _ s' => Oc s s') := by
  have hc := h.2.2.2.2.1.1
  have hpl : 0 ≤ t_place s (cu s) := h.2.2.2.2.1.2.2.2.2.2.2.2.2.1 0 hc.1
  obtain ⟨⟨q1, q2, q3, q4⟩, -⟩ := h.1.thr hc hpl
  have pg := h.2.2.1
  have pp := pg.2.2 p hf.1 hf.2
  have pb : 0 ≤ p ∧ p < 251 := ⟨hf.1, Int32.lt_of_lt_of_le hf.2 (Int32.le_trans pg.1.2 (by decide))⟩
  have hreg : 0 ≤ a_registers s p ∧ a_registers s p ≤ 250 := ⟨Int32.le_of_lt (Int32.lt_trans (by decide) pp.2.1.1), by
    have := pp.2.1.2
    clear h pp pg q4
    grind⟩
  have hpar : 0 ≤ a_params s p ∧ a_params s p ≤ 250 := ⟨pp.1.1, Int32.le_trans pp.1.2 hreg.2⟩
  have no := en79_oc s h hh
  unfold M_Mo_enter_j44
  rw [ok_B, ok_K]
  refine ⟨hc, ?_⟩
  rw [ok_B]
  refine ok_mono (topOf_ok s (cu s) h.1 hc hpl pg.1.2) fun b s1 ⟨es, b0, b1⟩ => ?_
  rw [es, ok_B, ok_K]
  refine ⟨hc, ?_⟩
  rw [ok_B, ok_GI, ok_C]
  refine ⟨fun _ => no, fun c2 => ?_⟩
  have n2 : t_frames s (cu s) ≠ 200 := c2
  rw [ok_B, ok_AI]
  refine ⟨pb, ?_⟩
  rw [ok_C]
  refine ⟨fun c3 => ?_, fun _ => no⟩
  have c3' : b + e + a_registers s p ≤ 4000 := c3
  obtain ⟨m1, m2, m3, m4, m5, m6⟩ := sum_num ⟨b0, b1⟩ he hreg c3'
  obtain ⟨f1, f2, f3, f4, f5⟩ := ph_num q2 n2
  rw [ok_B]
  refine ok_mono (push0_ok s x hc q2 n2) fun _ z ez => ?_
  have et : gI z 3586 (cu s) - 1 = t_frames s (cu s) := by
    rw [ez]
    simp only [gI_sI, gI_sL, gI_sA, gI_sB, gI_sAf, gI_sBf, gL_sI, gL_sL, gL_sA, gL_sB, gL_sAf, gL_sBf, gA_sI, gA_sL, gA_sA, gA_sB, gA_sAf, gA_sBf, gB_sI, gB_sL, gB_sA, gB_sB, gB_sAf, gB_sBf, Nat.reduceEqDiff, Nat.reduceMul, Nat.reduceAdd, false_and, true_and, and_true, and_false, if_true, if_false]
    exact f3
  simp only [M_Th_top, ok_B, ok_C, ok_R, ok_L, ok_K, ok_GI, ok_GL, ok_PI, ok_PL, ok_AI, ok_AL, ok_SI, ok_SL, ok_Pr, ok_CI, cmp_lt, cmp_le, cmp_gt, cmp_ge, cmp_eq, nar0, nar1, Sum.elim_inl, Sum.elim_inr]
  rw [et]
  refine ⟨hc, hc, f2, hc, f2, hc, f2, ?_⟩
  have pw : Pw s (sA (sA (sA z 32 (cu s) (t_frames s (cu s)) 0) 34 (cu s) (t_frames s (cu s)) e) 33 (cu s) (t_frames s (cu s)) (b + e)) x (b + e) e := by
    rw [ez]
    exact push0_pw s x (b + e) e
  generalize sA (sA (sA z 32 (cu s) (t_frames s (cu s)) 0) 34 (cu s) (t_frames s (cu s)) e) 33 (cu s) (t_frames s (cu s)) (b + e) = z0 at *
  refine ok_mono (en139_ok s z0 x p e b h.1 hc pb he m1 b1 hpar ha hs pw) fun y z1 ⟨ey, v1, sk1, pw1, w1⟩ => ?_
  rw [ey]
  refine ok_mono (en180_ok s z1 v1 x p e b h.1 hc pb ⟨m2, c3'⟩ m1.2 hreg ha m3 sk1 pw1 w1) fun _ z2 ⟨v2, sk2, pw2, w2⟩ => ?_
  have r2 := h.rx (sk2.rx h.2.1)
  have ag := zero7 r2.1
  have rx3 := ag.rx (Or.inl rfl) r2.2.1
  have r3 := r2.rx rx3
  have pw3 := pw2.zero
  have I3 : ∀ f i, f ≠ 898 → gI (sI v2 898 0 0) f i = gI s f i := fun f i q => (ag.2.1 f i q).trans (sk2.2.1 f i)
  have A3 : ∀ a i j, a ≠ 20 → gA (sI v2 898 0 0) a i j = gA s a i j := fun a i j q => sk2.2.2.2.1 a i j q
  have ecu : cu (sI v2 898 0 0) = cu s := I3 72 0 (by decide)
  have efx : a_first (sI v2 898 0 0) x = p := (A3 62 0 x (by decide)).trans hp
  have erg : a_registers (sI v2 898 0 0) p = a_registers s p := A3 44 0 p (by decide)
  refine ⟨enter_out r3 ((I3 2050 0 (by decide)).trans hh) (Or.inl ((I3 73 0 (by decide)).trans htd)) ?_ ?_ ?_ ⟨he.1, m4, m1.2⟩ he.2 ?_ (fun i a d => ?_) pw3, fun w => ?_⟩
  · rw [ecu]
    show gI (sI v2 898 0 0) 3586 (cu s) ≠ 200
    rw [I3 3586 _ (by decide)]
    exact n2
  · unfold Lv at *
    simp only [f_used, a_sort, I3 40 0 (by decide), A3 58 _ _ (by decide)] at *
    exact ⟨hx.1, hx.2.1, hx.2.2.1, fun z => by cases z⟩
  · rw [efx]
    show 0 ≤ p ∧ p < gI (sI v2 898 0 0) 23 0
    rw [I3 23 0 (by decide)]
    exact hf
  · rw [efx, erg]
    exact c3'
  · rw [efx, erg] at d
    rw [ecu]
    have vv := w2 i (m5 i a) (m6 i d)
    have q := (Vl.sk sk2).mpr vv
    unfold Vl Lv at *
    simp only [f_used, a_sort, a_marked, v_stack_k, v_stack_v, gI_sI, gI_sL, gI_sA, gI_sB, gI_sAf, gI_sBf, gL_sI, gL_sL, gL_sA, gL_sB, gL_sAf, gL_sBf, gA_sI, gA_sL, gA_sA, gA_sB, gA_sAf, gA_sBf, gB_sI, gB_sL, gB_sA, gB_sB, gB_sAf, gB_sBf, Nat.reduceEqDiff, Nat.reduceMul, Nat.reduceAdd, false_and, true_and, and_true, and_false, if_true, if_false] at *
    exact q
  · have e0 : f_todo (sI z2 898 0 0) = 0 := (pw3.I 73 (by decide) 0).trans ((I3 73 0 (by decide)).trans htd)
    exact absurd e0 w
theorem max_num {n p : Int32} (hn : 0 ≤ n ∧ n ≤ 250) (hp : 0 ≤ p ∧ p ≤ 250) (c : 0 < n - p) : (0 ≤ n - p ∧ n - p ≤ 250) ∧ p + (n - p) ≤ n := by
  exact ⟨⟨by grind, by grind⟩, by grind⟩
theorem q_enter_ok (s : S1) (x : Int32) (h : RI true s) (hh : v_hand_n s = 0) (htd : f_todo s = 0) (ha : v_args_n s ≤ 250) (hx : Lv false s x 6) (hf : 0 ≤ a_first s x) : ok (M_Mo_enter x) s (fun _ s' => Oc s s') := by
  have ha' : gI s 898 0 ≤ 250 := ha
  have n0 : 0 ≤ gI s 898 0 := h.1.2.2.2.1.2.1.1
  have fu := ((h.1.2.2.1.2 x hx.1 hx.2.1).2 hx.2.2.1 hf).1
  have pg := h.2.2.1
  have pp := pg.2.2 _ hf fu
  have pb : 0 ≤ a_first s x ∧ a_first s x < 251 := ⟨hf, Int32.lt_of_lt_of_le fu (Int32.le_trans pg.1.2 (by decide))⟩
  have hpar : 0 ≤ a_params s (a_first s x) ∧ a_params s (a_first s x) ≤ 250 := ⟨pp.1.1, Int32.le_trans pp.1.2 (by
    have := pp.2.1.2
    clear h pp pg
    grind)⟩
  have z0 := enter44_ok s x (a_first s x) 0 h hh htd ha' hx rfl ⟨hf, fu⟩ ⟨by decide, by decide⟩ (Or.inl rfl)
  simp only [M_Mo_enter, M_Mth_max, ok_B, ok_C, ok_R, ok_L, ok_K, ok_GI, ok_GL, ok_PI, ok_PL, ok_AI, ok_AL, ok_SI, ok_SL, ok_Pr, ok_CI, cmp_lt, cmp_le, cmp_gt, cmp_ge, cmp_eq, nar0, nar1, Sum.elim_inl, Sum.elim_inr]
  refine ⟨hx.b h.1, pb, fun c => ⟨pb, fun _ => z0, fun _ => ?_⟩, fun c => ⟨pb, fun _ => z0, fun _ => z0⟩⟩
  obtain ⟨m1, m2⟩ := max_num ⟨n0, ha'⟩ hpar c
  exact enter44_ok s x (a_first s x) _ h hh htd ha' hx rfl ⟨hf, fu⟩ m1 (Or.inr m2)
