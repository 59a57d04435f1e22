/-! What makers and tables' writes leave: the frames' side of the state. -/
def fzI (f : Nat) : Bool := !([33, 34, 35, 36, 37, 38, 39, 40, 41, 42, 43, 44, 54, 64, 66, 69, 73, 2050, 3584, 3587].contains f)
def fzL (f : Nat) : Bool := !([65, 67].contains f)
def fzA (a : Nat) : Bool := !([5, 17, 58, 59, 60, 61, 62, 63, 64, 65, 66, 67, 68, 69, 70, 73, 74, 75].contains a)
def fzB (a : Nat) : Bool := !([6, 18, 71, 72].contains a)
def q_Fz (s s' : S1) : Prop := (∀ f i, fzI f = true → gI s' f i = gI s f i) ∧ (∀ f i, fzL f = true → gL s' f i = gL s f i) ∧ (∀ a i j, fzA a = true → gA s' a i j = gA s a i j) ∧ ∀ a i j, fzB a = true → gB s' a i j = gB s a i j
theorem q_Fz.refl (s : S1) : q_Fz s s := ⟨fun _ _ _ => rfl, fun _ _ _ => rfl, fun _ _ _ _ => rfl, fun _ _ _ _ => rfl⟩
theorem q_Fz.trans {a b c : S1} (h : q_Fz a b) (k : q_Fz b c) : q_Fz a c := ⟨fun f i q => (k.1 f i q).trans (h.1 f i q), fun f i q => (k.2.1 f i q).trans (h.2.1 f i q), fun f i j q => (k.2.2.1 f i j q).trans (h.2.2.1 f i j q), fun f i j q => (k.2.2.2 f i j q).trans (h.2.2.2 f i j q)⟩
theorem q_Fz.I {s s' : S1} (h : q_Fz s s') (f : Nat) (hf : fzI f = true) (i : Int32) : gI s' f i = gI s f i := h.1 f i hf
theorem q_Fz.L {s s' : S1} (h : q_Fz s s') (f : Nat) (hf : fzL f = true) (i : Int32) : gL s' f i = gL s f i := h.2.1 f i hf
theorem q_Fz.A {s s' : S1} (h : q_Fz s s') (f : Nat) (hf : fzA f = true) (i j : Int32) : gA s' f i j = gA s f i j := h.2.2.1 f i j hf
theorem q_Fz.B {s s' : S1} (h : q_Fz s s') (f : Nat) (hf : fzB f = true) (i j : Int32) : gB s' f i j = gB s f i j := h.2.2.2 f i j hf
theorem q_Fz.sI {s s' : S1} (h : q_Fz s s') {f : Nat} {i x : Int32} (hf : fzI f = false) : q_Fz s (sI s' f i x) := ⟨fun g j hg => by
  rw [gI_sI, if_neg]
  · exact h.1 g j hg
  · rintro ⟨w, -⟩
    rw [w, hf] at hg
    exact absurd hg (by decide), h.2⟩
theorem q_Fz.sL {s s' : S1} (h : q_Fz s s') {f : Nat} {i : Int32} {x : Int64} (hf : fzL f = false) : q_Fz s (sL s' f i x) := ⟨h.1, fun g j hg => by
  rw [gL_sL, if_neg]
  · exact h.2.1 g j hg
  · rintro ⟨w, -⟩
    rw [w, hf] at hg
    exact absurd hg (by decide), h.2.2⟩
theorem q_Fz.sA {s s' : S1} (h : q_Fz s s') {f : Nat} {i j x : Int32} (hf : fzA f = false) : q_Fz s (sA s' f i j x) := ⟨h.1, h.2.1, fun g u v hg => by
  rw [gA_sA, if_neg]
  · exact h.2.2.1 g u v hg
  · rintro ⟨w, -⟩
    rw [w, hf] at hg
    exact absurd hg (by decide), h.2.2.2⟩
theorem q_Fz.sB {s s' : S1} (h : q_Fz s s') {f : Nat} {i j : Int32} {x : Int64} (hf : fzB f = false) : q_Fz s (sB s' f i j x) := ⟨h.1, h.2.1, h.2.2.1, fun g u v hg => by
  rw [gB_sB, if_neg]
  · exact h.2.2.2 g u v hg
  · rintro ⟨w, -⟩
    rw [w, hf] at hg
    exact absurd hg (by decide)⟩
theorem q_Fz.gcx {s s' : S1} (hg : Gcx s s') : q_Fz s s' := by
  refine ⟨fun f i q => hg.I f ?_ i, fun f i q => hg.2.1 f i ?_ ?_, fun a i j q => hg.A a ?_ i j, fun a i j q => hg.2.2.2.1 a i j ?_⟩
  · unfold fzI at q
    simp only [List.contains_eq_mem, List.mem_cons, List.not_mem_nil, or_false, Bool.not_eq_true', decide_eq_false_iff_not] at q
    omega
  · rintro e
    subst e
    exact absurd q (by decide)
  · rintro e
    subst e
    exact absurd q (by decide)
  · unfold fzA at q
    simp only [List.contains_eq_mem, List.mem_cons, List.not_mem_nil, or_false, Bool.not_eq_true', decide_eq_false_iff_not] at q
    omega
  · rintro e
    subst e
    exact absurd q (by decide)
theorem q_Fz.mk2 {s s' : S1} {x k : Int32} (hg : Mk2 s s' x k) : q_Fz s s' := by
  refine ⟨fun f i q => hg.I f ?_ i, fun f i q => hg.L f i, fun a i j q => hg.A a ?_ i j, fun a i j q => hg.B a ?_ i j⟩
  · unfold fzI at q
    simp only [List.contains_eq_mem, List.mem_cons, List.not_mem_nil, or_false, Bool.not_eq_true', decide_eq_false_iff_not] at q
    omega
  · unfold fzA at q
    simp only [List.contains_eq_mem, List.mem_cons, List.not_mem_nil, or_false, Bool.not_eq_true', decide_eq_false_iff_not] at q
    omega
  · rintro e
    subst e
    exact absurd q (by decide)
theorem q_Fz.tw {s s' : S1} {t : Int32} (hg : Tw s s' t) : q_Fz s s' := by
  refine ⟨fun f i q => hg.1 f i, fun f i q => hg.2.1 f i, fun a i j q => hg.A a ?_ i j, fun a i j q => hg.B a ?_ i j⟩
  · unfold fzA at q
    simp only [List.contains_eq_mem, List.mem_cons, List.not_mem_nil, or_false, Bool.not_eq_true', decide_eq_false_iff_not] at q
    omega
  · unfold fzB at q
    simp only [List.contains_eq_mem, List.mem_cons, List.not_mem_nil, or_false, Bool.not_eq_true', decide_eq_false_iff_not] at q
    omega
def Nx (s s' : S1) : Prop := GG s' ∧ q_Fz s s' ∧ (f_noCollection s = 0 → Ths s → Fe s s') ∧ (f_noCollection s ≠ 0 → ∀ x k, Lv false s x k → k ≠ 0 → Lv false s' x k) ∧ (∀ x, FL s x → FL s' x) ∧ Td s s'
theorem Nx.refl {s : S1} (h : GG s) : Nx s s := ⟨h, q_Fz.refl s, fun _ ht => (Hz.refl s).fe ht, fun _ _ _ w _ => w, fun _ w => w, Or.inl rfl⟩
theorem Nx.trans {a b c : S1} (h : Nx a b) (k : Nx b c) : Nx a c := by
  have e : f_noCollection b = f_noCollection a := h.2.1.I 92 (by decide) 0
  refine ⟨k.1, h.2.1.trans k.2.1, fun z ht => ?_, fun z x j w q => ?_, fun x w => k.2.2.2.2.1 x (h.2.2.2.2.1 x w), h.2.2.2.2.2.trans k.2.2.2.2.2⟩
  · have f1 := h.2.2.1 z ht
    exact f1.trans (k.2.2.1 (e.trans z) (ht.fe f1))
  · exact k.2.2.2.1 (by rw [e]; exact z) x j (h.2.2.2.1 z x j w q) q
/-- writes that leave the heap's places -/
theorem Nx.hz {s s' : S1} (h : GG s') (hf : q_Fz s s') (hz : Hz s s') (ht : Td s s') : Nx s s' := by
  refine ⟨h, hf, fun _ ht => hz.fe ht, fun _ x k w _ => ?_, fun x w => w.hz hz, ht⟩
  unfold Lv at *
  simp only [f_used, a_sort, hz.1 40 _ (by decide), hz.2.1 58 _ _ (by decide)] at *
  exact ⟨w.1, w.2.1, w.2.2.1, fun z => by cases z⟩
theorem Nx.gcx {s s' : S1} (h : GG s) (hm : Gm s') (hg : Gcx s s') (hl : Kl s s') : Nx s s' := ⟨h.gcx hm hg hl, q_Fz.gcx hg, fun z ht => Fe.gcx hm z hg h.1.1 ht, fun z x k w _ => (hl.2 z).1 x k w, fun x w => w.gcx hg, hl.1⟩
theorem Nx.mk2 {s s' : S1} {x k : Int32} (h : GG s) (hM : Mk2 s s' x k) (h' : GG s') : Nx s s' := ⟨h', q_Fz.mk2 hM, fun z ht => Fe.mk2 hM h.1.1 ht, fun z y j w q => w.mk2 hM q, fun y w => w.mk2 hM, Or.inl (hM.I 73 (by decide) 0)⟩
theorem Nx.mdx {s s' : S1} {k v : Int32} {E : S1 → S1 → Int32 → Prop} (h : GG s) (hd : Mdx s k E v s') : Nx s s' := by
  rcases hd.2 with ⟨_, w, wl⟩ | ⟨s0, w0, w1, w2, w3, w4, w5⟩
  · exact Nx.gcx h hd.1.1 w wl
  · exact (Nx.gcx h w0.1 w1.x w2).trans (Nx.mk2 w0 w3 hd.1)
theorem Fe.tw {s s' : S1} {t : Int32} (hg : Tw s s' t) (h5 : Lv false s t 5) (hh : Hq s) (ht : Ths s) : Fe s s' := by
  have eP : ∀ u, t_place s' u = t_place s u := fun u => hg.1 3584 u
  refine ⟨fun f i _ => hg.1 f i, fun a i j q => hg.A a ?_ i j, fun i j => hg.B 3 (by decide) i j, fun u _ _ q => by rw [← eP]; exact q, fun n q => ?_, ?_, fun u f a b c d e g => ?_, fun x q => ?_⟩
  · unfold feA at q
    simp only [List.contains_eq_mem, List.mem_cons, List.not_mem_nil, or_false, decide_eq_true_eq] at q
    omega
  · rw [eP]
    exact ht.2.2.2.2.2.2.2.2.1 n q
  · rw [eP]
    exact ht.2.2.2.2.2.2.2.1
  · rw [eP] at c
    have l := (hh.fn ⟨a, b⟩ c ⟨d, e⟩ g).1
    show a_first s' (gA s' 31 u f) = a_first s (gA s 31 u f)
    rw [hg.A 31 (by decide)]
    exact (hg.P (l.nt h5.2.2.1 (by decide))).1
  · refine ⟨(Lv.tw hg).mpr q.1, ?_⟩
    show gA s' 60 0 x ≠ 0
    rw [hg.A 60 (by decide)]
    exact q.2
theorem Nx.tw {s s' : S1} {t : Int32} (h : GG s) (hw : Tw s s' t) (ht : Lv false s t 5) : Nx s s' := by
  refine ⟨h.tw hw ht, q_Fz.tw hw, fun _ hT => Fe.tw hw ht h.1.1 hT, fun _ x k q _ => (Lv.tw hw).mpr q, fun x q => ⟨(Lv.tw hw).mpr q.1, ?_⟩, Or.inl (hw.1 73 0)⟩
  show gA s' 60 0 x ≠ 0
  rw [hw.A 60 (by decide)]
  exact q.2
theorem GG.raise {s : S1} (h : GG s) (n c : Int32) : GG (sI (sL (sI s 64 0 3) 65 0 n.toInt64) 73 0 c) := (h.err (k := 3) (v := n.toInt64) (Or.inl ⟨by decide, by decide⟩)).hx ((Hx0.refl _).sI (by decide))
theorem Nx.raise {s : S1} (h : GG s) (n c : Int32) (hc : c = 3 ∨ c = 4) : Nx s (sI (sL (sI s 64 0 3) 65 0 n.toInt64) 73 0 c) := Nx.hz (h.raise n c) ((((q_Fz.refl s).sI (by decide)).sL (by decide)).sI (by decide)) (((Hz.refl s).sI (by decide)).sL.sI (by decide)) (Or.inr (by simp only [f_todo, gI_sI, gI_sL, gI_sA, gI_sB, gI_sAf, gI_sBf, gL_sI, gL_sL, gL_sA, gL_sB, gL_sAf, gL_sBf, gA_sI, gA_sL, gA_sA, gA_sB, gA_sAf, gA_sBf, gB_sI, gB_sL, gB_sA, gB_sB, gB_sAf, gB_sBf, Nat.reduceEqDiff, Nat.reduceMul, Nat.reduceAdd, false_and, true_and, and_true, and_false, if_true, if_false]; exact hc))
theorem Nx.got {s : S1} (h : GG s) (a : Int32) (b : Int64) : Nx s (sL (sI s 66 0 a) 67 0 b) := Nx.hz (h.hx (hx_got (Hx0.refl s) a b)) (((q_Fz.refl s).sI (by decide)).sL (by decide)) ((Hz.refl s).sI (by decide)).sL (Or.inl (by simp only [f_todo, gI_sI, gI_sL, gI_sA, gI_sB, gI_sAf, gI_sBf, gL_sI, gL_sL, gL_sA, gL_sB, gL_sAf, gL_sBf, gA_sI, gA_sL, gA_sA, gA_sB, gA_sAf, gA_sBf, gB_sI, gB_sL, gB_sA, gB_sB, gB_sAf, gB_sBf, Nat.reduceEqDiff, Nat.reduceMul, Nat.reduceAdd, false_and, true_and, and_true, and_false, if_true, if_false]))
theorem Nx.handAdd {s : S1} (h : GG s) {k : Int32} {v : Int64} (hn : v_hand_n s < 64) (hv : Wl false s k v) : Nx s (sI (sB (sA s 17 0 (v_hand_n s) k) 18 0 (v_hand_n s) v) 2050 0 (v_hand_n s + 1)) := Nx.hz (h.handAdd hn hv) ((((q_Fz.refl s).sA (by decide)).sB (by decide)).sI (by decide)) ((((Hz.refl s).sA (by decide)).sB (by decide)).sI (by decide)) (Or.inl (by simp only [f_todo, gI_sI, gI_sL, gI_sA, gI_sB, gI_sAf, gI_sBf, gL_sI, gL_sL, gL_sA, gL_sB, gL_sAf, gL_sBf, gA_sI, gA_sL, gA_sA, gA_sB, gA_sAf, gA_sBf, gB_sI, gB_sL, gB_sA, gB_sB, gB_sAf, gB_sBf, Nat.reduceEqDiff, Nat.reduceMul, Nat.reduceAdd, false_and, true_and, and_true, and_false, if_true, if_false]))
theorem Nx.handN {s : S1} (h : GG s) {n : Int32} (hn : 0 ≤ n ∧ n ≤ v_hand_n s) : Nx s (sI s 2050 0 n) := Nx.hz (h.handN hn) ((q_Fz.refl s).sI (by decide)) ((Hz.refl s).sI (by decide)) (Or.inl (by simp only [f_todo, gI_sI, gI_sL, gI_sA, gI_sB, gI_sAf, gI_sBf, gL_sI, gL_sL, gL_sA, gL_sB, gL_sAf, gL_sBf, gA_sI, gA_sL, gA_sA, gA_sB, gA_sAf, gA_sBf, gB_sI, gB_sL, gB_sA, gB_sB, gB_sAf, gB_sBf, Nat.reduceEqDiff, Nat.reduceMul, Nat.reduceAdd, false_and, true_and, and_true, and_false, if_true, if_false]))
/-- a value more in hand, by the program -/
theorem handAdd_ok (s : S1) (k : Int32) (v : Int64) (h : GG s) (hn : v_hand_n s < 64) (hv : Wl false s k v) (hk : 0 ≤ k ∧ k ≤ 8) : ok (M_Va_add 16 0 k v) s (fun _ s' => Nx s s' ∧ s' = sI (sB (sA s 17 0 (v_hand_n s) k) 18 0 (v_hand_n s) v) 2050 0 (v_hand_n s + 1)) := by
  have n0 := h.2.2.2.1.1.1
  simp only [M_Va_add, ok_B, ok_C, ok_R, ok_L, ok_K, ok_GI, ok_GL, ok_PI, ok_PL, ok_AI, ok_AL, ok_SI, ok_SL, ok_Pr, ok_CI, cmp_lt, cmp_le, cmp_gt, cmp_ge, cmp_eq, nar0, nar1, Sum.elim_inl, Sum.elim_inr, i8_id hk]
  simp only [gI_sI, gI_sL, gI_sA, gI_sB, gI_sAf, gI_sBf, gL_sI, gL_sL, gL_sA, gL_sB, gL_sAf, gL_sBf, gA_sI, gA_sL, gA_sA, gA_sB, gA_sAf, gA_sBf, gB_sI, gB_sL, gB_sA, gB_sB, gB_sAf, gB_sBf, Nat.reduceEqDiff, Nat.reduceMul, Nat.reduceAdd, false_and, true_and, and_true, and_false, if_true, if_false]
  exact ⟨⟨n0, hn⟩, ⟨n0, hn⟩, Nx.handAdd h hn hv, rfl⟩
