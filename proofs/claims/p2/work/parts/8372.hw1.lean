/-! Writes beside the heap and its numbers; writes to the rows. -/
def hwI (f : Nat) : Bool := [23, 32, 33, 34, 38, 39, 40, 41, 42, 43, 44, 54, 72, 74, 92, 3202, 3584, 3586, 3587, 3590, 8959, 9087, 9215, 9343, 9471, 9599].contains f
def hwA (a : Nat) : Bool := [5, 20, 23, 26, 29, 30, 31, 33, 34, 36, 44, 45, 58, 59, 60, 61, 62, 63, 64, 65, 66, 67, 68, 69, 70, 73, 74].contains a
def Hw (s s' : S1) : Prop := (∀ a i j, hwA a = true → gA s' a i j = gA s a i j) ∧ (∀ a i j, q_hpB a = true → gB s' a i j = gB s a i j) ∧ ∀ f i, hwI f = true → gI s' f i = gI s f i
theorem Hw.refl (s : S1) : Hw s s := ⟨fun _ _ _ _ => rfl, fun _ _ _ _ => rfl, fun _ _ _ => rfl⟩
theorem Hw.sI {s s' : S1} (h : Hw s s') {f : Nat} {i x : Int32} (hf : hwI f = false) : Hw s (sI s' f i x) := ⟨h.1, h.2.1, fun g j hg => by
  rw [gI_sI, if_neg]
  · exact h.2.2 g j hg
  · rintro ⟨w, -⟩
    rw [w, hf] at hg
    exact absurd hg (by decide)⟩
theorem Hw.sL {s s' : S1} (h : Hw s s') {f : Nat} {i : Int32} {x : Int64} : Hw s (sL s' f i x) := h
theorem Hw.sA {s s' : S1} (h : Hw s s') {f : Nat} {i j x : Int32} (hf : hwA f = false) : Hw s (sA s' f i j x) := ⟨fun g u v hg => by
  rw [gA_sA, if_neg]
  · exact h.1 g u v hg
  · rintro ⟨w, -⟩
    rw [w, hf] at hg
    exact absurd hg (by decide), h.2.1, h.2.2⟩
theorem Hw.sB {s s' : S1} (h : Hw s s') {f : Nat} {i j : Int32} {x : Int64} (hf : q_hpB f = false) : Hw s (sB s' f i j x) := ⟨h.1, fun g u v hg => by
  rw [gB_sB, if_neg]
  · exact h.2.1 g u v hg
  · rintro ⟨w, -⟩
    rw [w, hf] at hg
    exact absurd hg (by decide), h.2.2⟩
theorem hp_hw {a : Nat} (h : q_hpA a = true) : hwA a = true := by
  unfold q_hpA at h
  unfold hwA
  simp only [List.contains_eq_mem, List.mem_cons, List.not_mem_nil, or_false, decide_eq_true_eq] at *
  omega
theorem Hw.hs {s s' : S1} (h : Hw s s') : Hs s s' := ⟨fun a i j q => h.1 a i j (hp_hw q), h.2.1, fun f i q => h.2.2 f i (by
  unfold hwI
  simp only [List.contains_eq_mem, List.mem_cons, List.not_mem_nil, or_false, decide_eq_true_eq]
  omega)⟩
theorem Hw.I {s s' : S1} (h : Hw s s') (f : Nat) (hf : hwI f = true) (i : Int32) : gI s' f i = gI s f i := h.2.2 f i hf
theorem Hw.A {s s' : S1} (h : Hw s s') (f : Nat) (hf : hwA f = true) (i j : Int32) : gA s' f i j = gA s f i j := h.1 f i j hf
theorem Ex.hw {s s' : S1} (h : Ex s) (hs : Hw s s') : Ex s' := by
  unfold Ex q_Dj q_Rg Tch Fu at *
  simp only [f_used, f_protos, a_sort, a_first, a_second, a_third, a_bucket, a_follow, a_upvalues, hs.I 40 (by decide), hs.I 23 (by decide), hs.A 58 (by decide), hs.A 62 (by decide), hs.A 63 (by decide), hs.A 64 (by decide), hs.A 73 (by decide), hs.A 74 (by decide), hs.A 45 (by decide)] at *
  exact h
theorem Nm.hw {s s' : S1} (h : Nm s) (hs : Hw s s') : Nm s' := by
  unfold Nm at *
  simp only [f_entryTop, f_roomAll, f_textMade, f_textAll, f_made, f_madeAll, f_limit, f_used, a_sort, a_tag, a_second, hs.A 63 (by decide), hs.I 41 (by decide), hs.I 43 (by decide), hs.I 38 (by decide), hs.I 44 (by decide), hs.I 33 (by decide), hs.I 42 (by decide), hs.I 32 (by decide), hs.I 40 (by decide), hs.A 58 (by decide), hs.A 61 (by decide)] at *
  exact h
theorem GG.hw {s s' : S1} (h : GG s) (hs : Hw s s') (hr : Rws s') : GG s' := by
  obtain ⟨hm, hn, he, -, ht⟩ := h
  have hh := hs.hs
  refine ⟨⟨hm.1.hs hh, fun z => ?_⟩, hn.hw hs, he.hw hs, hr, (PT.same (fun t => hs.I 3584 (by decide) t) (hs.I 39 (by decide) 0)).2 ht⟩
  have z' : f_noCollection s = 0 := (hs.I 92 (by decide) 0).symm.trans z
  obtain ⟨⟨r1, ⟨ρ, r2⟩, r3⟩, q1, q2, q3, -⟩ := hm.2 z'
  obtain ⟨n1, n2, n3, n4, w1, w2, w3, w4, er, ca⟩ := hr
  have e := chN_I (hs.I 72 (by decide) 0) (hs.I 3590 (by decide))
  refine ⟨⟨?_, ⟨ρ, ?_⟩, n1, n2, n3, n4, ?_⟩, ?_, ?_, ?_, w1, w2.w, w3.w, er, w4.w, ca, fun _ _ _ _ _ z => by cases z⟩
  · show 0 ≤ gI s' 72 0 ∧ gI s' 72 0 < 33
    rw [hs.I 72 (by decide)]
    exact r1
  · unfold Rk
    simp only [t_resumer, hs.I 3590 (by decide)]
    exact r2
  · show 0 ≤ gI s' 40 0 ∧ gI s' 40 0 ≤ 4000
    rw [hs.I 40 (by decide)]
    exact hm.1.2.2.2.2.2.2
  · rw [Lv.hs hh]
    show Lv false s (gI s' 74 0) 5
    rw [hs.I 74 (by decide)]
    exact q1
  · rw [Lv.hs hh]
    show Lv false s (gI s' 3584 0) 7
    rw [hs.I 3584 (by decide)]
    exact q2
  · intro n
    rw [e n, Lv.hs hh]
    show _ → Lv false s (gI s' 3584 _) 7
    rw [hs.I 3584 (by decide)]
    exact q3 n
/-- and beside the rows -/
def hxI (f : Nat) : Bool := hwI f || [2050, 898, 1282, 1666, 64, 75].contains f
def hxL (f : Nat) : Bool := [65, 76].contains f
def hxA (a : Nat) : Bool := hwA a || [8, 11, 14, 17].contains a
def hxB (a : Nat) : Bool := q_hpB a || [9, 12, 15, 18].contains a
def Hx0 (s s' : S1) : Prop := (∀ a i j, hxA a = true → gA s' a i j = gA s a i j) ∧ (∀ a i j, hxB a = true → gB s' a i j = gB s a i j) ∧ (∀ f i, hxI f = true → gI s' f i = gI s f i) ∧ ∀ f i, hxL f = true → gL s' f i = gL s f i
theorem Hx0.refl (s : S1) : Hx0 s s := ⟨fun _ _ _ _ => rfl, fun _ _ _ _ => rfl, fun _ _ _ => rfl, fun _ _ _ => rfl⟩
theorem Hx0.trans {a b c : S1} (h : Hx0 a b) (k : Hx0 b c) : Hx0 a c := ⟨fun f i j q => (k.1 f i j q).trans (h.1 f i j q), fun f i j q => (k.2.1 f i j q).trans (h.2.1 f i j q), fun f i q => (k.2.2.1 f i q).trans (h.2.2.1 f i q), fun f i q => (k.2.2.2 f i q).trans (h.2.2.2 f i q)⟩
theorem Hx0.sI {s s' : S1} (h : Hx0 s s') {f : Nat} {i x : Int32} (hf : hxI f = false) : Hx0 s (sI s' f i x) := ⟨h.1, h.2.1, fun g j hg => by
  rw [gI_sI, if_neg]
  · exact h.2.2.1 g j hg
  · rintro ⟨w, -⟩
    rw [w, hf] at hg
    exact absurd hg (by decide), h.2.2.2⟩
theorem Hx0.sL {s s' : S1} (h : Hx0 s s') {f : Nat} {i : Int32} {x : Int64} (hf : hxL f = false) : Hx0 s (sL s' f i x) := ⟨h.1, h.2.1, h.2.2.1, fun g j hg => by
  rw [gL_sL, if_neg]
  · exact h.2.2.2 g j hg
  · rintro ⟨w, -⟩
    rw [w, hf] at hg
    exact absurd hg (by decide)⟩
theorem Hx0.sA {s s' : S1} (h : Hx0 s s') {f : Nat} {i j x : Int32} (hf : hxA f = false) : Hx0 s (sA s' f i j x) := ⟨fun g u v hg => by
  rw [gA_sA, if_neg]
  · exact h.1 g u v hg
  · rintro ⟨w, -⟩
    rw [w, hf] at hg
    exact absurd hg (by decide), h.2.1, h.2.2⟩
theorem Hx0.sB {s s' : S1} (h : Hx0 s s') {f : Nat} {i j : Int32} {x : Int64} (hf : hxB f = false) : Hx0 s (sB s' f i j x) := ⟨h.1, fun g u v hg => by
  rw [gB_sB, if_neg]
  · exact h.2.1 g u v hg
  · rintro ⟨w, -⟩
    rw [w, hf] at hg
    exact absurd hg (by decide), h.2.2⟩
theorem Hx0.hw {s s' : S1} (h : Hx0 s s') : Hw s s' := ⟨fun a i j q => h.1 a i j (by unfold hxA; rw [q]; rfl), fun a i j q => h.2.1 a i j (by unfold hxB; rw [q]; rfl), fun f i q => h.2.2.1 f i (by unfold hxI; rw [q]; rfl)⟩
theorem Hx0.I {s s' : S1} (h : Hx0 s s') (f : Nat) (hf : hxI f = true) (i : Int32) : gI s' f i = gI s f i := h.2.2.1 f i hf
theorem Hx0.L {s s' : S1} (h : Hx0 s s') (f : Nat) (hf : hxL f = true) (i : Int32) : gL s' f i = gL s f i := h.2.2.2 f i hf
theorem Hx0.A {s s' : S1} (h : Hx0 s s') (f : Nat) (hf : hxA f = true) (i j : Int32) : gA s' f i j = gA s f i j := h.1 f i j hf
theorem Hx0.B {s s' : S1} (h : Hx0 s s') (f : Nat) (hf : hxB f = true) (i j : Int32) : gB s' f i j = gB s f i j := h.2.1 f i j hf
theorem Rws.hx {s s' : S1} (h : Rws s) (hs : Hx0 s s') : Rws s' := by
  have hh := hs.hw.hs
  unfold Rws RvV RwV at *
  simp only [Vl.hs hh, Wl.hs hh] at *
  simp only [v_hand_n, v_args_n, v_results_n, v_ended_n, f_errorKind, f_errorValue, f_calledKind, f_called, Nat.reduceMul, Nat.reduceAdd, hs.I 2050 (by decide), hs.I 898 (by decide), hs.I 1282 (by decide), hs.I 1666 (by decide), hs.I 64 (by decide), hs.I 75 (by decide), hs.L 65 (by decide), hs.L 76 (by decide), hs.A 8 (by decide), hs.A 11 (by decide), hs.A 14 (by decide), hs.A 17 (by decide), hs.B 9 (by decide), hs.B 12 (by decide), hs.B 15 (by decide), hs.B 18 (by decide)] at *
  exact h
theorem GG.hx {s s' : S1} (h : GG s) (hs : Hx0 s s') : GG s' := h.hw hs.hw (h.2.2.2.1.hx hs)
theorem GG.err {s : S1} (h : GG s) {k : Int32} {v : Int64} (hv : Vl false s k v) : GG (sL (sI s 64 0 k) 65 0 v) := by
  have hw : Hw s (sL (sI s 64 0 k) 65 0 v) := ((Hw.refl s).sI (by decide)).sL
  refine h.hw hw ?_
  obtain ⟨n1, n2, n3, n4, w1, w2, w3, w4, er, ca⟩ := h.2.2.2.1
  unfold Rws RvV RwV at *
  simp only [Vl.hs hw.hs, Wl.hs hw.hs]
  simp only [v_hand_n, v_args_n, v_results_n, v_ended_n, f_errorKind, f_errorValue, f_calledKind, f_called, gI_sI, gI_sL, gI_sA, gI_sB, gI_sAf, gI_sBf, gL_sI, gL_sL, gL_sA, gL_sB, gL_sAf, gL_sBf, gA_sI, gA_sL, gA_sA, gA_sB, gA_sAf, gA_sBf, gB_sI, gB_sL, gB_sA, gB_sB, gB_sAf, gB_sBf, Nat.reduceEqDiff, Nat.reduceMul, Nat.reduceAdd, false_and, true_and, and_true, and_false, if_true, if_false] at *
  exact ⟨n1, n2, n3, n4, w1, w2, w3, w4, hv, ca⟩
theorem GG.calling {s : S1} (h : GG s) {k : Int32} {v : Int64} (hv : Vl false s k v) : GG (sL (sI s 75 0 k) 76 0 v) := by
  have hw : Hw s (sL (sI s 75 0 k) 76 0 v) := ((Hw.refl s).sI (by decide)).sL
  refine h.hw hw ?_
  obtain ⟨n1, n2, n3, n4, w1, w2, w3, w4, er, ca⟩ := h.2.2.2.1
  unfold Rws RvV RwV at *
  simp only [Vl.hs hw.hs, Wl.hs hw.hs]
  simp only [v_hand_n, v_args_n, v_results_n, v_ended_n, f_errorKind, f_errorValue, f_calledKind, f_called, gI_sI, gI_sL, gI_sA, gI_sB, gI_sAf, gI_sBf, gL_sI, gL_sL, gL_sA, gL_sB, gL_sAf, gL_sBf, gA_sI, gA_sL, gA_sA, gA_sB, gA_sAf, gA_sBf, gB_sI, gB_sL, gB_sA, gB_sB, gB_sAf, gB_sBf, Nat.reduceEqDiff, Nat.reduceMul, Nat.reduceAdd, false_and, true_and, and_true, and_false, if_true, if_false] at *
  exact ⟨n1, n2, n3, n4, w1, w2, w3, w4, er, hv⟩
/-- kinds alone: nothing is called, no error is there -/
theorem GG.errK {s : S1} (h : GG s) {k : Int32} (hk : 0 ≤ k ∧ k < 4) : GG (sI s 64 0 k) := by
  have hw : Hw s (sI s 64 0 k) := (Hw.refl s).sI (by decide)
  refine h.hw hw ?_
  obtain ⟨n1, n2, n3, n4, w1, w2, w3, w4, er, ca⟩ := h.2.2.2.1
  unfold Rws RvV RwV at *
  simp only [Vl.hs hw.hs, Wl.hs hw.hs]
  simp only [v_hand_n, v_args_n, v_results_n, v_ended_n, f_errorKind, f_errorValue, f_calledKind, f_called, gI_sI, gI_sL, gI_sA, gI_sB, gI_sAf, gI_sBf, gL_sI, gL_sL, gL_sA, gL_sB, gL_sAf, gL_sBf, gA_sI, gA_sL, gA_sA, gA_sB, gA_sAf, gA_sBf, gB_sI, gB_sL, gB_sA, gB_sB, gB_sAf, gB_sBf, Nat.reduceEqDiff, Nat.reduceMul, Nat.reduceAdd, false_and, true_and, and_true, and_false, if_true, if_false] at *
  exact ⟨n1, n2, n3, n4, w1, w2, w3, w4, Or.inl hk, ca⟩
theorem GG.callK {s : S1} (h : GG s) {k : Int32} (hk : 0 ≤ k ∧ k < 4) : GG (sI s 75 0 k) := by
  have hw : Hw s (sI s 75 0 k) := (Hw.refl s).sI (by decide)
  refine h.hw hw ?_
  obtain ⟨n1, n2, n3, n4, w1, w2, w3, w4, er, ca⟩ := h.2.2.2.1
  unfold Rws RvV RwV at *
  simp only [Vl.hs hw.hs, Wl.hs hw.hs]
  simp only [v_hand_n, v_args_n, v_results_n, v_ended_n, f_errorKind, f_errorValue, f_calledKind, f_called, gI_sI, gI_sL, gI_sA, gI_sB, gI_sAf, gI_sBf, gL_sI, gL_sL, gL_sA, gL_sB, gL_sAf, gL_sBf, gA_sI, gA_sL, gA_sA, gA_sB, gA_sAf, gA_sBf, gB_sI, gB_sL, gB_sA, gB_sB, gB_sAf, gB_sBf, Nat.reduceEqDiff, Nat.reduceMul, Nat.reduceAdd, false_and, true_and, and_true, and_false, if_true, if_false] at *
  exact ⟨n1, n2, n3, n4, w1, w2, w3, w4, er, Or.inl hk⟩
theorem GG.setRow {s : S1} (h : GG s) (r : Nat) (hr : r = 7 ∨ r = 10 ∨ r = 13) {i k : Int32} {v : Int64} (hv : Vl false s k v) : GG (sB (sA s (r + 1) 0 i k) (r + 2) 0 i v) := by
  have hw : Hw s (sB (sA s (r + 1) 0 i k) (r + 2) 0 i v) := by
    rcases hr with e | e | e <;> subst e <;> exact ((Hw.refl s).sA (by decide)).sB (by decide)
  refine h.hw hw ?_
  obtain ⟨n1, n2, n3, n4, w1, w2, w3, w4, er, ca⟩ := h.2.2.2.1
  unfold Rws RvV RwV at *
  simp only [Vl.hs hw.hs, Wl.hs hw.hs]
  clear hw
  have key : ∀ (a : Nat) (b : Nat) (n : Int32), (∀ j, 0 ≤ j → j < n → Vl false s (gA s a 0 j) (gB s b 0 j)) → ∀ j, 0 ≤ j → j < n → Vl false s (if j = i then k else gA s a 0 j) (if j = i then v else gB s b 0 j) := fun a b n hh j p q => by
    by_cases c : j = i
    · rw [if_pos c, if_pos c]
      exact hv
    · rw [if_neg c, if_neg c]
      exact hh j p q
  rcases hr with e | e | e <;> subst e <;> simp only [v_hand_n, v_args_n, v_results_n, v_ended_n, f_errorKind, f_errorValue, f_calledKind, f_called, gI_sI, gI_sL, gI_sA, gI_sB, gI_sAf, gI_sBf, gL_sI, gL_sL, gL_sA, gL_sB, gL_sAf, gL_sBf, gA_sI, gA_sL, gA_sA, gA_sB, gA_sAf, gA_sBf, gB_sI, gB_sL, gB_sA, gB_sB, gB_sAf, gB_sBf, Nat.reduceEqDiff, Nat.reduceMul, Nat.reduceAdd, false_and, true_and, and_true, and_false, if_true, if_false] at *
  · exact ⟨n1, n2, n3, n4, w1, key _ _ _ w2, w3, w4, er, ca⟩
  · exact ⟨n1, n2, n3, n4, w1, w2, key _ _ _ w3, w4, er, ca⟩
  · exact ⟨n1, n2, n3, n4, w1, w2, w3, key _ _ _ w4, er, ca⟩
theorem GG.nRow {s : S1} (h : GG s) (r : Nat) (hr : r = 7 ∨ r = 10 ∨ r = 13) {n : Int32} (hn : 0 ≤ n ∧ n ≤ 400) (hv : ∀ i, 0 ≤ i → i < n → Vl false s (gA s (r + 1) 0 i) (gB s (r + 2) 0 i)) : GG (sI s (128 * r + 2) 0 n) := by
  have hw : Hw s (sI s (128 * r + 2) 0 n) := by
    rcases hr with e | e | e <;> subst e <;> exact (Hw.refl s).sI (by decide)
  refine h.hw hw ?_
  obtain ⟨n1, n2, n3, n4, w1, w2, w3, w4, er, ca⟩ := h.2.2.2.1
  unfold Rws RvV RwV at *
  simp only [Vl.hs hw.hs, Wl.hs hw.hs]
  clear hw
  rcases hr with e | e | e <;> subst e <;> simp only [v_hand_n, v_args_n, v_results_n, v_ended_n, f_errorKind, f_errorValue, f_calledKind, f_called, gI_sI, gI_sL, gI_sA, gI_sB, gI_sAf, gI_sBf, gL_sI, gL_sL, gL_sA, gL_sB, gL_sAf, gL_sBf, gA_sI, gA_sL, gA_sA, gA_sB, gA_sAf, gA_sBf, gB_sI, gB_sL, gB_sA, gB_sB, gB_sAf, gB_sBf, Nat.reduceEqDiff, Nat.reduceMul, Nat.reduceAdd, false_and, true_and, and_true, and_false, if_true, if_false] at *
  · exact ⟨n1, hn, n3, n4, w1, hv, w3, w4, er, ca⟩
  · exact ⟨n1, n2, hn, n4, w1, w2, hv, w4, er, ca⟩
  · exact ⟨n1, n2, n3, hn, w1, w2, w3, hv, er, ca⟩
theorem GG.zRow {s : S1} (h : GG s) (r : Nat) (hr : r = 7 ∨ r = 10 ∨ r = 13) : GG (sI s (128 * r + 2) 0 0) := h.nRow r hr ⟨by decide, by decide⟩ fun i a b => absurd (Int32.lt_of_le_of_lt a b) Int32.lt_irrefl
/-- what is in hand: a value or a variable more, or as many as before -/
theorem GG.handAdd {s : S1} (h : GG s) {k : Int32} {v : Int64} (hn : v_hand_n s < 64) (hv : Wl false s k v) : GG (sI (sB (sA s 17 0 (v_hand_n s) k) 18 0 (v_hand_n s) v) 2050 0 (v_hand_n s + 1)) := by
  have hw : Hw s (sI (sB (sA s 17 0 (v_hand_n s) k) 18 0 (v_hand_n s) v) 2050 0 (v_hand_n s + 1)) := (((Hw.refl s).sA (by decide)).sB (by decide)).sI (by decide)
  refine h.hw hw ?_
  obtain ⟨n1, n2, n3, n4, w1, w2, w3, w4, er, ca⟩ := h.2.2.2.1
  unfold Rws RvV RwV at *
  simp only [Vl.hs hw.hs, Wl.hs hw.hs]
  clear hw
  simp only [v_hand_n, v_args_n, v_results_n, v_ended_n, f_errorKind, f_errorValue, f_calledKind, f_called, gI_sI, gI_sL, gI_sA, gI_sB, gI_sAf, gI_sBf, gL_sI, gL_sL, gL_sA, gL_sB, gL_sAf, gL_sBf, gA_sI, gA_sL, gA_sA, gA_sB, gA_sAf, gA_sBf, gB_sI, gB_sL, gB_sA, gB_sB, gB_sAf, gB_sBf, Nat.reduceEqDiff, Nat.reduceMul, Nat.reduceAdd, false_and, true_and, and_true, and_false, if_true, if_false] at *
  have nn : (0 ≤ gI s 2050 0 + 1 ∧ gI s 2050 0 + 1 ≤ 64) ∧ ∀ i, 0 ≤ i → i < 0 + (gI s 2050 0 + 1) → i ≠ gI s 2050 0 → i < 0 + gI s 2050 0 := by
    clear w1 w2 w3 w4 er ca
    exact ⟨⟨by grind, by grind⟩, fun i a b c => by grind⟩
  refine ⟨nn.1, n2, n3, n4, fun i a b => ?_, w2, w3, w4, er, ca⟩
  by_cases c : i = gI s 2050 0
  · rw [if_pos c, if_pos c]
    exact hv
  · rw [if_neg c, if_neg c]
    exact w1 i a (nn.2 i a b c)
theorem GG.handN {s : S1} (h : GG s) {n : Int32} (hn : 0 ≤ n ∧ n ≤ v_hand_n s) : GG (sI s 2050 0 n) := by
  have hw : Hw s (sI s 2050 0 n) := (Hw.refl s).sI (by decide)
  refine h.hw hw ?_
  obtain ⟨n1, n2, n3, n4, w1, w2, w3, w4, er, ca⟩ := h.2.2.2.1
  unfold Rws RvV RwV at *
  simp only [Vl.hs hw.hs, Wl.hs hw.hs]
  clear hw
  simp only [v_hand_n, v_args_n, v_results_n, v_ended_n, f_errorKind, f_errorValue, f_calledKind, f_called, Int32.zero_add, gI_sI, gI_sL, gI_sA, gI_sB, gI_sAf, gI_sBf, gL_sI, gL_sL, gL_sA, gL_sB, gL_sAf, gL_sBf, gA_sI, gA_sL, gA_sA, gA_sB, gA_sAf, gA_sBf, gB_sI, gB_sL, gB_sA, gB_sB, gB_sAf, gB_sBf, Nat.reduceEqDiff, Nat.reduceMul, Nat.reduceAdd, false_and, true_and, and_true, and_false, if_true, if_false] at *
  exact ⟨⟨hn.1, Int32.le_trans hn.2 n1.2⟩, n2, n3, n4, fun i a b => w1 i a (Int32.lt_of_lt_of_le b hn.2), w2, w3, w4, er, ca⟩
theorem got_got (s : S1) (a c : Int32) (b d : Int64) : sL (sI (sL (sI s 66 0 a) 67 0 b) 66 0 c) 67 0 d = sL (sI s 66 0 c) 67 0 d := by
  unfold sL sI
  refine Prod.ext ?_ (Prod.ext ?_ rfl)
  · funext f i
    dsimp only
    by_cases h : f = 66 ∧ i = 0
    · rw [if_pos h, if_pos h]
    · rw [if_neg h, if_neg h, if_neg h]
  · funext f i
    dsimp only
    by_cases h : f = 67 ∧ i = 0
    · rw [if_pos h, if_pos h]
    · rw [if_neg h, if_neg h, if_neg h]
theorem hx_got {s s' : S1} (h : Hx0 s s') (a : Int32) (b : Int64) : Hx0 s (sL (sI s' 66 0 a) 67 0 b) := (h.sI (by decide)).sL (by decide)
