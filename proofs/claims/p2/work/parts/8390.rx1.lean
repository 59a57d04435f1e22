/-! While it runs: what every small step keeps. -/
theorem GG.ss {s s' : S1} (h : GG s) (hs : Ss s s') : GG s' := by
  obtain ⟨hm, hn, he, hr, hc⟩ := h
  refine ⟨hm.ss hs, ?_, ?_, ?_, (PT.same (fun t => hs.1 3584 t) (hs.1 39 0)).2 hc⟩
  · unfold Nm at *
    simp only [f_entryTop, f_roomAll, f_textMade, f_textAll, f_made, f_madeAll, f_limit, f_used, a_sort, a_tag, a_second, hs.1, hs.A 58 (by decide), hs.A 61 (by decide), hs.A 63 (by decide)] at *
    exact hn
  · unfold Ex q_Dj q_Rg Tch Fu at *
    simp only [f_used, f_protos, a_sort, a_first, a_second, a_third, a_bucket, a_follow, a_upvalues, hs.1, hs.A 58 (by decide), hs.A 62 (by decide), hs.A 63 (by decide), hs.A 64 (by decide), hs.A 73 (by decide), hs.A 74 (by decide), hs.A 45 (by decide)] at *
    exact he
  · unfold Rws RvV RwV at *
    simp only [Vl.ss hs, Wl.ss hs]
    simp only [v_hand_n, v_args_n, v_results_n, v_ended_n, f_errorKind, f_errorValue, f_calledKind, f_called, Nat.reduceMul, Nat.reduceAdd, hs.1, hs.2.1, hs.A 8 (by decide), hs.A 11 (by decide), hs.A 14 (by decide), hs.A 17 (by decide), hs.B 9 (by decide), hs.B 12 (by decide), hs.B 15 (by decide), hs.B 18 (by decide)] at *
    exact hr
theorem GG.sv {s s' : S1} (h : GG s) (hs : q_Sv s s') : GG s' := by
  obtain ⟨hm, hn, he, hr, hc⟩ := h
  refine ⟨hm.sv hs, ?_, ?_, ?_, (PT.same (fun t => hs.1 3584 t) (hs.1 39 0)).2 hc⟩
  · unfold Nm at *
    simp only [f_entryTop, f_roomAll, f_textMade, f_textAll, f_made, f_madeAll, f_limit, f_used, a_sort, a_tag, a_second, hs.1, hs.A 58 (by decide), hs.A 61 (by decide), hs.A 63 (by decide)] at *
    exact hn
  · unfold Ex q_Dj q_Rg Tch Fu at *
    simp only [f_used, f_protos, a_sort, a_first, a_second, a_third, a_bucket, a_follow, a_upvalues, hs.1, hs.A 58 (by decide), hs.A 62 (by decide), hs.A 63 (by decide), hs.A 64 (by decide), hs.A 73 (by decide), hs.A 74 (by decide), hs.A 45 (by decide)] at *
    exact he
  · unfold Rws RvV RwV at *
    simp only [Vl.sv hs, Wl.sv hs]
    simp only [v_hand_n, v_args_n, v_results_n, v_ended_n, f_errorKind, f_errorValue, f_calledKind, f_called, Nat.reduceMul, Nat.reduceAdd, hs.1, hs.2.1, hs.A 8 (by decide), hs.A 11 (by decide), hs.A 14 (by decide), hs.A 17 (by decide), hs.B 9 (by decide), hs.B 12 (by decide), hs.B 15 (by decide), hs.B 18 (by decide)] at *
    exact hr
def fsA (a : Nat) : Bool := [2, 30, 31, 32, 33, 34, 35, 36, 37, 38, 39, 40, 42, 43, 44, 45, 46, 47, 48, 49, 50, 51, 52, 53, 54, 55, 82, 83, 84].contains a
/-- the frames are as they were -/
def Fs (s s' : S1) : Prop := (∀ f i, feI f = true → gI s' f i = gI s f i) ∧ (∀ a i j, fsA a = true → gA s' a i j = gA s a i j) ∧ ∀ i j, gB s' 3 i j = gB s 3 i j
theorem Fs.refl (s : S1) : Fs s s := ⟨fun _ _ _ => rfl, fun _ _ _ _ => rfl, fun _ _ => rfl⟩
theorem Fs.trans {a b c : S1} (h : Fs a b) (k : Fs b c) : Fs a c := ⟨fun f i q => (k.1 f i q).trans (h.1 f i q), fun f i j q => (k.2.1 f i j q).trans (h.2.1 f i j q), fun i j => (k.2.2 i j).trans (h.2.2 i j)⟩
theorem Fs.I {s s' : S1} (h : Fs s s') (f : Nat) (hf : feI f = true) (i : Int32) : gI s' f i = gI s f i := h.1 f i hf
theorem Fs.A {s s' : S1} (h : Fs s s') (f : Nat) (hf : fsA f = true) (i j : Int32) : gA s' f i j = gA s f i j := h.2.1 f i j hf
def RI (τ : Bool) (s : S1) : Prop := GG s ∧ f_noCollection s = 0 ∧ Fr τ s
def Rx (s s' : S1) : Prop := GG s' ∧ f_noCollection s' = 0 ∧ (Ths s → Fe s s') ∧ Fs s s'
theorem Rx.trans {a b c : S1} (h : Rx a b) (k : Rx b c) : Rx a c := ⟨k.1, k.2.1, fun q => (h.2.2.1 q).trans (k.2.2.1 (q.fe (h.2.2.1 q))), h.2.2.2.trans k.2.2.2⟩
theorem Rx.refl {s : S1} (h : GG s) (hz : f_noCollection s = 0) : Rx s s := ⟨h, hz, fun q => (Hz.refl s).fe q, Fs.refl s⟩
theorem RI.rx {τ : Bool} {s s' : S1} (h : RI τ s) (k : Rx s s') : RI τ s' := ⟨k.1, k.2.1, h.2.2.fe (k.2.2.1 h.2.2.2.2.1)⟩
theorem Nx.rx {s s' : S1} (nx : Nx s s') (hz : f_noCollection s = 0) : Rx s s' := by
  refine ⟨nx.1, (nx.2.1.I 92 (by decide) 0).trans hz, nx.2.2.1 hz, fun f i q => nx.2.1.1 f i ?_, fun a i j q => nx.2.1.2.2.1 a i j ?_, fun i j => nx.2.1.2.2.2 3 i j (by decide)⟩
  · unfold feI at q
    unfold fzI
    simp only [List.contains_eq_mem, List.mem_cons, List.not_mem_nil, or_false, decide_eq_true_eq, Bool.not_eq_true', decide_eq_false_iff_not] at *
    omega
  · unfold fsA at q
    unfold fzA
    simp only [List.contains_eq_mem, List.mem_cons, List.not_mem_nil, or_false, decide_eq_true_eq, Bool.not_eq_true', decide_eq_false_iff_not] at *
    omega
/-- writes beside frames and places -/
def hyI (f : Nat) : Bool := [23, 25, 72, 3585, 3586, 3589, 3590, 3202, 40, 3584, 92].contains f
def hyA (a : Nat) : Bool := [2, 30, 31, 32, 33, 34, 35, 36, 37, 38, 39, 40, 42, 43, 44, 45, 46, 47, 48, 49, 50, 51, 52, 53, 54, 55, 82, 83, 84, 58, 60, 62].contains a
def Hy (s s' : S1) : Prop := (∀ f i, hyI f = true → gI s' f i = gI s f i) ∧ (∀ a i j, hyA a = true → gA s' a i j = gA s a i j) ∧ ∀ i j, gB s' 3 i j = gB s 3 i j
theorem Hy.refl (s : S1) : Hy s s := ⟨fun _ _ _ => rfl, fun _ _ _ _ => rfl, fun _ _ => rfl⟩
theorem Hy.sI {s s' : S1} (h : Hy s s') {f : Nat} {i x : Int32} (hf : hyI f = false) : Hy s (sI s' f i x) := ⟨fun g j hg => by
  rw [gI_sI, if_neg]
  · exact h.1 g j hg
  · rintro ⟨w, -⟩
    rw [w, hf] at hg
    exact absurd hg (by decide), h.2.1, h.2.2⟩
theorem Hy.sL {s s' : S1} (h : Hy s s') {f : Nat} {i : Int32} {x : Int64} : Hy s (sL s' f i x) := h
theorem Hy.sA {s s' : S1} (h : Hy s s') {f : Nat} {i j x : Int32} (hf : hyA f = false) : Hy s (sA s' f i j x) := ⟨h.1, fun g u v hg => by
  rw [gA_sA, if_neg]
  · exact h.2.1 g u v hg
  · rintro ⟨w, -⟩
    rw [w, hf] at hg
    exact absurd hg (by decide), h.2.2⟩
theorem Hy.sB {s s' : S1} (h : Hy s s') {f : Nat} {i j : Int32} {x : Int64} (hf : f ≠ 3) : Hy s (sB s' f i j x) := ⟨h.1, h.2.1, fun u v => by
  rw [gB_sB, if_neg (fun w => hf w.1.symm)]
  exact h.2.2 u v⟩
theorem Hy.trans {a b c : S1} (h : Hy a b) (k : Hy b c) : Hy a c := ⟨fun f i q => (k.1 f i q).trans (h.1 f i q), fun f i j q => (k.2.1 f i j q).trans (h.2.1 f i j q), fun i j => (k.2.2 i j).trans (h.2.2 i j)⟩
theorem Hy.hz {s s' : S1} (h : Hy s s') : Hz s s' := by
  refine ⟨fun f i q => h.1 f i ?_, fun a i j q => h.2.1 a i j ?_, h.2.2⟩
  · unfold hzI feI at q
    unfold hyI
    simp only [List.contains_eq_mem, List.mem_cons, List.not_mem_nil, or_false, Bool.or_eq_true, decide_eq_true_eq] at *
    omega
  · unfold hzA feA at q
    unfold hyA
    simp only [List.contains_eq_mem, List.mem_cons, List.not_mem_nil, or_false, Bool.or_eq_true, decide_eq_true_eq] at *
    omega
theorem Hy.fs {s s' : S1} (h : Hy s s') : Fs s s' := by
  refine ⟨fun f i q => h.1 f i ?_, fun a i j q => h.2.1 a i j ?_, h.2.2⟩
  · unfold feI at q
    unfold hyI
    simp only [List.contains_eq_mem, List.mem_cons, List.not_mem_nil, or_false, decide_eq_true_eq] at *
    omega
  · unfold fsA at q
    unfold hyA
    simp only [List.contains_eq_mem, List.mem_cons, List.not_mem_nil, or_false, decide_eq_true_eq] at *
    omega
theorem Rx.hy {s s' : S1} (h : GG s') (hy : Hy s s') (hz : f_noCollection s = 0) : Rx s s' := ⟨h, (hy.1 92 0 (by decide)).trans hz, fun q => hy.hz.fe q, hy.fs⟩
theorem Rx.hx {s s' : S1} (h : GG s) (hx : Hx0 s s') (hy : Hy s s') (hz : f_noCollection s = 0) : Rx s s' := Rx.hy (h.hx hx) hy hz
/-- a value on a stack -/
theorem setS_rx (s : S1) (t i k : Int32) (v : Int64) (h : GG s) (hz : f_noCollection s = 0) (hi : 0 ≤ i ∧ i < 4300) (hv : Vl false s k v) : ok (M_Va_set 19 t i k v) s (fun _ s' => s' = sB (sA s 20 t i k) 21 t i v ∧ Rx s s') :=
  ok_mono (setS_ok s t i k v hi hv) fun _ s' ⟨e, hs⟩ => ⟨e, Rx.hy (h.ss hs) (by rw [e]; exact ((Hy.refl s).sA (by decide)).sB (by decide)) hz⟩
theorem setSS_rx (s : S1) (t i u j : Int32) (r : Nat) (h : GG s) (hz : f_noCollection s = 0) (hi : 0 ≤ i ∧ i < 4300) (hj : 0 ≤ j ∧ j < lnI (r + 1) ∧ j < lnI (r + 2)) (hv : Vl false s (gA s (r + 1) u j) (gB s (r + 2) u j)) : ok (M_Va_set_ 19 t i r u j) s (fun _ s' => s' = sB (sA s 20 t i (gA s (r + 1) u j)) 21 t i (gB s (r + 2) u j) ∧ Rx s s') := by
  have key := setS_rx s t i _ _ h hz hi hv
  simp only [M_Va_set, ok_B, ok_C, ok_R, ok_L, ok_K, ok_GI, ok_GL, ok_PI, ok_PL, ok_AI, ok_AL, ok_SI, ok_SL, ok_Pr, ok_CI, cmp_lt, cmp_le, cmp_gt, cmp_ge, cmp_eq, nar0, nar1, Sum.elim_inl, Sum.elim_inr, i8_id hv.kind] at key
  simp only [M_Va_set_, ok_B, ok_C, ok_R, ok_L, ok_K, ok_GI, ok_GL, ok_PI, ok_PL, ok_AI, ok_AL, ok_SI, ok_SL, ok_Pr, ok_CI, cmp_lt, cmp_le, cmp_gt, cmp_ge, cmp_eq, nar0, nar1, Sum.elim_inl, Sum.elim_inr, i8_id hv.kind]
  have e : gB (sA s 20 t i (gA s (r + 1) u j)) (r + 2) u j = gB s (r + 2) u j := rfl
  rw [e]
  exact ⟨⟨hj.1, hj.2.1⟩, key.1, ⟨hj.1, hj.2.2⟩, key.2.1, rfl, key.2.2.2⟩
/-- the frame at the top of what runs -/
abbrev tp (s : S1) : Int32 := t_frames s (f_current s) - 1
abbrev pq (s : S1) : Int32 := pf s (f_current s) (tp s)
abbrev bs (s : S1) : Int32 := t_base s (f_current s) (tp s)
def TopF (s : S1) : Prop := (0 ≤ f_current s ∧ f_current s < 33) ∧ 0 ≤ t_place s (f_current s) ∧ (0 ≤ tp s ∧ tp s < 200) ∧ Lv false s (t_function s (f_current s) (tp s)) 6 ∧ (0 ≤ t_function s (f_current s) (tp s) ∧ t_function s (f_current s) (tp s) < 4100) ∧ (0 ≤ pq s ∧ pq s < f_protos s) ∧ Pp s (pq s) ∧
  (0 ≤ t_extra s (f_current s) (tp s) ∧ t_extra s (f_current s) (tp s) ≤ 250 ∧ t_extra s (f_current s) (tp s) ≤ bs s) ∧ (0 ≤ bs s ∧ bs s ≤ 4000 ∧ bs s + a_registers s (pq s) ≤ 4000) ∧ (0 ≤ t_rowCount s (f_current s) (tp s) ∧ t_rowCount s (f_current s) (tp s) ≤ 260) ∧
  (∀ r, 0 ≤ r → r < a_registers s (pq s) → (0 ≤ bs s + r ∧ bs s + r < 4000) ∧ Vl false s (v_stack_k s (f_current s) (bs s + r)) (v_stack_v s (f_current s) (bs s + r))) ∧
  (∀ j, 0 ≤ j → j < t_extra s (f_current s) (tp s) → (0 ≤ bs s - t_extra s (f_current s) (tp s) + j ∧ bs s - t_extra s (f_current s) (tp s) + j < 4000) ∧ Vl false s (v_stack_k s (f_current s) (bs s - t_extra s (f_current s) (tp s) + j)) (v_stack_v s (f_current s) (bs s - t_extra s (f_current s) (tp s) + j))) ∧
  (∀ i, 0 ≤ i → i < t_rowCount s (f_current s) (tp s) → Vl false s (v_row_k s (f_current s) i) (v_row_v s (f_current s) i)) ∧
  (∀ k, 0 ≤ k → k < a_upvalues s (pq s) → (0 ≤ a_second s (t_function s (f_current s) (tp s)) + k ∧ a_second s (t_function s (f_current s) (tp s)) + k < 300000) ∧ Lv false s (a_follow s (a_second s (t_function s (f_current s) (tp s)) + k)) 8)
theorem base_num {b e g r j : Int32} (hb : 0 ≤ e ∧ e ≤ b ∧ b ≤ 4000) (hg : 0 ≤ g ∧ g ≤ 255 ∧ b + g ≤ 4000) : (0 ≤ r → r < g → (0 ≤ b + r ∧ b + r < 4000) ∧ b - e ≤ b + r ∧ b + r < b - e + (g + e)) ∧ (0 ≤ j → j < e → (0 ≤ b - e + j ∧ b - e + j < 4000) ∧ b - e ≤ b - e + j ∧ b - e + j < b - e + (g + e)) := by
  have c0 : (0 : Int32).toInt = 0 := rfl
  have c4 : (4000 : Int32).toInt = 4000 := rfl
  have c2 : (255 : Int32).toInt = 255 := rfl
  simp only [i32_le, i32_lt, c0, c4, c2] at *
  have y1 := tI_add (a := b) (b := g) (by omega)
  have y2 := tI_sub (a := b) (b := e) (by omega)
  have y3 := tI_add (a := g) (b := e) (by omega)
  have y4 := tI_add (a := b - e) (b := g + e) (by omega)
  refine ⟨fun h1 h2 => ?_, fun h1 h2 => ?_⟩
  · have y5 := tI_add (a := b) (b := r) (by omega)
    omega
  · have y5 := tI_add (a := b - e) (b := j) (by omega)
    omega
theorem RI.top {τ : Bool} {s : S1} (h : RI τ s) (ht : 0 ≤ tp s) (hk : t_kind s (f_current s) (tp s) = 0) : TopF s := by
  obtain ⟨hg, hz, hp, hx, hT, hF⟩ := h
  have hc := hT.1
  have hpl : 0 ≤ t_place s (f_current s) := hT.2.2.2.2.2.2.2.2.1 0 hc.1
  obtain ⟨w1, w2⟩ := hg.1.1.2.2.2.2.2.1 _ hc.1 hc.2 hpl
  obtain ⟨⟨-, -, q7, -⟩, -, -, p7, -⟩ := hg.1.1.1.2.2 _ w1.1 w1.2.1
  have q := q7 w1.2.2.1
  have p := p7 w1.2.2.1
  rw [w2] at q p
  have hfr := q.2.2.2.2.1
  have hlt : tp s < t_frames s (f_current s) := by
    show t_frames s (f_current s) - 1 < t_frames s (f_current s)
    clear q p w1 w2 q7 p7 hF hT hx hp hg hk
    grind
  have h200 : tp s < 200 := Int32.lt_of_lt_of_le hlt hfr.2
  obtain ⟨r1, r2, r3, r4, r5⟩ := q.2.2.2.2.2.2 (tp s) ht hlt hk
  obtain ⟨v1, v2⟩ := p.2.1 (tp s) ht hlt
  have hl := v1 r1.1
  have fu := (hg.2.2.1.2 _ hl.1 hl.2.1).2 hl.2.2.1 r2.1
  have hfi := (hF _ hc.1 hc.2 hpl (tp s) ht hlt).2 hk
  have sf := ((hg.1.1.1.2.2 _ hl.1 hl.2.1).1.2.1 hl.2.2.1).2 r2.1
  have vf := ((hg.1.1.1.2.2 _ hl.1 hl.2.1).2.2.1 hl.2.2.1).2 r2.1
  have htop := hg.1.1.1.2.1.2
  have b0 : 0 ≤ bs s := Int32.le_trans r3.1 r3.2.1
  refine ⟨hc, hpl, ⟨ht, h200⟩, hl, r1, ⟨r2.1, fu.1⟩, hp.2.2 _ r2.1 fu.1, ⟨r3.1, hfi.1, r3.2.1⟩, ⟨b0, r3.2.2, r4.2.2⟩, r5, fun r a b => ?_, fun j a b => ?_, fun i a b => ?_, fun k a b => ?_⟩
  · have n := (base_num (j := 0) r3 r4).1 a b
    exact ⟨n.1, (v2 hk).1 _ n.2.1 n.2.2⟩
  · have n := (base_num (r := 0) r3 r4).2 a b
    exact ⟨n.1, (v2 hk).1 _ n.2.1 n.2.2⟩
  · exact (v2 hk).2 rfl i a (by rw [Int32.zero_add]; exact b)
  · have b' : k < a_third s (t_function s (f_current s) (tp s)) := by
      rw [fu.2]
      exact b
    exact ⟨add_in (a := a_second s (t_function s (f_current s) (tp s))) (i := k) (n := a_third s (t_function s (f_current s) (tp s))) (L := 300000) ⟨sf.1, Int32.le_trans sf.2.2.1 (by decide)⟩ a b' (Int32.le_trans sf.2.2.2.1 (by decide)) (Int32.le_trans sf.2.2.2.2 htop), vf k a b'⟩
