/-! More room of entries is taken; a table grows; a table is written. -/
def Tt (s s' : S1) : Prop := (∀ f i, f ≠ 36 → f ≠ 37 → f ≠ 41 → f ≠ 43 → gI s' f i = gI s f i) ∧ (∀ f i, gL s' f i = gL s f i) ∧ (∀ a i j, gA s' a i j = gA s a i j) ∧ ∀ a i j, gB s' a i j = gB s a i j
theorem Tt.I {s s' : S1} (h : Tt s s') (f : Nat) (hf : f ≠ 36 ∧ f ≠ 37 ∧ f ≠ 41 ∧ f ≠ 43) (i : Int32) : gI s' f i = gI s f i := h.1 f i hf.1 hf.2.1 hf.2.2.1 hf.2.2.2
theorem Lv.tt {m : Bool} {s s' : S1} {x k : Int32} (hs : Tt s s') : Lv m s' x k ↔ Lv m s x k := by
  unfold Lv
  simp only [f_used, a_sort, a_marked, hs.2.2.1, hs.I 40 (by decide)]
theorem Vl.tt {m : Bool} {s s' : S1} {k : Int32} {v : Int64} (hs : Tt s s') : Vl m s' k v ↔ Vl m s k v := by
  unfold Vl
  simp only [Lv.tt hs]
theorem Wl.tt {m : Bool} {s s' : S1} {k : Int32} {v : Int64} (hs : Tt s s') : Wl m s' k v ↔ Wl m s k v := by
  unfold Wl
  simp only [Vl.tt hs, Lv.tt hs]
theorem PcV.tt {m : Bool} {s s' : S1} {x : Int32} (hs : Tt s s') : PcV m s' x ↔ PcV m s x := by
  unfold PcV TbV FnV VrV ThV FrV
  simp only [Vl.tt hs, Lv.tt hs]
  simp only [a_sort, a_tag, a_first, a_second, a_third, a_chain, a_free, a_text, a_heads, a_ek, a_ev, a_vk, a_vv, a_follow, a_bucket, a_registers, f_used, v_variable_k, v_variable_v, v_stack_k, v_stack_v, v_row_k, v_row_v, v_start_n, v_start_k, v_start_v, t_place, t_frames, t_openCount, t_open, t_kind, t_function, t_base, t_extra, t_rowCount, p_ek, p_vk, p_ev, p_vv, p_follow, hs.2.2.1, hs.2.2.2, hs.I 40 (by decide), hs.I 3586 (by decide), hs.I 3587 (by decide), hs.I 3202 (by decide)]
theorem Ts.tt {s s' : S1} {t : Int32} (hs : Tt s s') : Ts s' t ↔ Ts s t := by
  unfold Ts FrS
  simp only [a_sort, a_tag, a_first, a_second, a_third, a_chain, a_free, a_text, a_heads, a_ek, a_ev, a_vk, a_vv, a_follow, a_bucket, a_registers, f_used, v_variable_k, v_variable_v, v_stack_k, v_stack_v, v_row_k, v_row_v, v_start_n, v_start_k, v_start_v, t_place, t_frames, t_openCount, t_open, t_kind, t_function, t_base, t_extra, t_rowCount, p_ek, p_vk, p_ev, p_vv, p_follow, hs.2.2.1, hs.I 3586 (by decide), hs.I 3587 (by decide), hs.I 3202 (by decide)]
theorem Hq.tt {s s' : S1} (h : Hq s) (hs : Tt s s') (ht : f_entryTop s ≤ f_entryTop s' ∧ f_entryTop s' ≤ 300000) : Hq s' := by
  obtain ⟨⟨v1, v2, v3⟩, h2, h3, h4, h5, h6, h7⟩ := h
  have eu : f_used s' = f_used s := hs.I 40 (by decide) 0
  refine ⟨⟨?_, ⟨Int32.le_trans v2.1 ht.1, ht.2⟩, fun x a b => ?_⟩, h2.sq ⟨fun a j _ => hs.2.2.1 a 0 j, hs.I 40 (by decide) 0, hs.I 38 (by decide) 0⟩, ?_, ?_, ?_, ?_, by rw [eu]; exact h7⟩
  · unfold Rm at *
    simp only [p_ek, p_vk, p_ev, p_vv, p_follow, p_bucket, hs.I 8959 (by decide), hs.I 9087 (by decide), hs.I 9215 (by decide), hs.I 9343 (by decide), hs.I 9471 (by decide), hs.I 9599 (by decide)] at *
    exact v1
  · rw [eu] at b
    obtain ⟨⟨a5, a6, a7, a8⟩, c⟩ := v3 x a b
    refine ⟨?_, (PcV.tt hs).mpr c⟩
    unfold Sh
    simp only [Ts.tt hs]
    simp only [a_sort, a_first, a_second, a_third, t_place, hs.2.2.1, hs.I 3584 (by decide)] at *
    exact ⟨fun z => ⟨(a5 z).1, (a5 z).2.1, (a5 z).2.2.1, (a5 z).2.2.2.1, (a5 z).2.2.2.2.1, Int32.le_trans (a5 z).2.2.2.2.2 ht.1⟩, fun z => ⟨(a6 z).1, fun w => ⟨((a6 z).2 w).1, ((a6 z).2 w).2.1, ((a6 z).2 w).2.2.1, ((a6 z).2 w).2.2.2.1, Int32.le_trans ((a6 z).2 w).2.2.2.2 ht.1⟩⟩, a7, a8⟩
  · unfold Frl at *
    simp only [f_freed, f_existing, f_used, a_free, a_sort, hs.2.2.1, hs.I 54 (by decide), hs.I 34 (by decide), hs.I 40 (by decide)] at *
    exact h3
  · unfold Ov at *
    simp only [Lv.tt hs]
    simp only [t_place, t_openCount, t_open, a_first, hs.2.2.1, hs.I 3584 (by decide), hs.I 3587 (by decide)] at *
    exact h4
  · unfold Cv at *
    simp only [Lv.tt hs]
    simp only [t_place, t_openCount, t_open, a_first, hs.2.2.1, hs.I 3584 (by decide), hs.I 3587 (by decide)] at *
    exact h5
  · unfold q_Tp at *
    simp only [Lv.tt hs]
    simp only [t_place, a_first, hs.2.2.1, hs.I 3584 (by decide)] at *
    exact h6
theorem GG.tt {s s' : S1} (h : GG s) (hs : Tt s s') (ht : f_entryTop s ≤ f_entryTop s') (hr : f_entryTop s' ≤ f_roomAll s' ∧ f_roomAll s' ≤ 300000) : GG s' := by
  obtain ⟨hm, hn, he, hrw, hc⟩ := h
  refine ⟨⟨hm.1.tt hs ⟨ht, Int32.le_trans hr.1 hr.2⟩, fun z => ?_⟩, ?_, ?_, ?_, (PT.same (fun t => hs.I 3584 (by decide) t) (hs.I 39 (by decide) 0)).2 hc⟩
  · have z' : f_noCollection s = 0 := (hs.I 92 (by decide) 0).symm.trans z
    obtain ⟨⟨r1, ⟨ρ, r2⟩, r3⟩, q⟩ := hm.2 z'
    have e := chN_I (hs.I 72 (by decide) 0) (hs.I 3590 (by decide))
    constructor
    · unfold RtS Rk at *
      simp only [f_current, t_resumer, v_hand_n, v_args_n, v_results_n, v_ended_n, f_used, hs.I 72 (by decide), hs.I 3590 (by decide), hs.I 2050 (by decide), hs.I 898 (by decide), hs.I 1282 (by decide), hs.I 1666 (by decide), hs.I 40 (by decide)] at *
      exact ⟨r1, ⟨ρ, r2⟩, r3⟩
    · unfold RtV RwV at *
      simp only [e, Lv.tt hs, Vl.tt hs, Wl.tt hs]
      simp only [f_globals, t_place, f_errorKind, f_errorValue, f_calledKind, f_called, a_sort, a_fixed, a_marked, f_used, Nat.reduceMul, Nat.reduceAdd, hs.2.1, hs.2.2.1, hs.2.2.2, hs.I 74 (by decide), hs.I 3584 (by decide), hs.I 64 (by decide), hs.I 75 (by decide), hs.I 40 (by decide), hs.I 2050 (by decide), hs.I 898 (by decide), hs.I 1282 (by decide), hs.I 1666 (by decide)] at *
      exact q
  · obtain ⟨n1, n2, n3, n4, n5⟩ := hn
    refine ⟨⟨hr.1, Int32.le_trans (Int32.le_trans hm.1.1.2.1.1 ht) hr.1, hr.2⟩, ?_⟩
    simp only [f_textMade, f_textAll, f_made, f_madeAll, f_limit, f_used, a_sort, a_tag, a_second, hs.2.2.1, hs.I 38 (by decide), hs.I 44 (by decide), hs.I 33 (by decide), hs.I 42 (by decide), hs.I 32 (by decide), hs.I 40 (by decide)] at *
    exact ⟨n2, n3, n4, n5⟩
  · unfold Ex q_Dj q_Rg Tch Fu at *
    simp only [f_used, f_protos, a_sort, a_first, a_second, a_third, a_bucket, a_follow, a_upvalues, hs.2.2.1, hs.I 40 (by decide), hs.I 23 (by decide)] at *
    exact he
  · unfold Rws RvV RwV at *
    simp only [Vl.tt hs, Wl.tt hs]
    simp only [v_hand_n, v_args_n, v_results_n, v_ended_n, f_errorKind, f_errorValue, f_calledKind, f_called, Nat.reduceMul, Nat.reduceAdd, hs.2.1, hs.2.2.1, hs.2.2.2, hs.I 2050 (by decide), hs.I 898 (by decide), hs.I 1282 (by decide), hs.I 1666 (by decide), hs.I 64 (by decide), hs.I 75 (by decide)] at *
    exact hrw
theorem Nx.tt {s s' : S1} (h : GG s) (hs : Tt s s') (ht : f_entryTop s ≤ f_entryTop s') (hr : f_entryTop s' ≤ f_roomAll s' ∧ f_roomAll s' ≤ 300000) : Nx s s' := by
  refine Nx.hz (h.tt hs ht hr) ⟨fun f i q => hs.I f ?_ i, fun f i _ => hs.2.1 f i, fun a i j _ => hs.2.2.1 a i j, fun a i j _ => hs.2.2.2 a i j⟩ ⟨fun f i q => hs.I f ?_ i, fun a i j _ => hs.2.2.1 a i j, fun i j => hs.2.2.2 3 i j⟩ (Or.inl (hs.I 73 (by decide) 0))
  · unfold fzI at q
    simp only [List.contains_eq_mem, List.mem_cons, List.not_mem_nil, or_false, Bool.not_eq_true', decide_eq_false_iff_not] at q
    omega
  · unfold hzI feI at q
    simp only [List.contains_eq_mem, List.mem_cons, List.not_mem_nil, or_false, Bool.or_eq_true, decide_eq_true_eq] at q
    omega
theorem tI_add {a b : Int32} (h : -2147483648 ≤ a.toInt + b.toInt ∧ a.toInt + b.toInt < 2147483648) : (a + b).toInt = a.toInt + b.toInt := by
  rw [Int32.toInt_add]
  exact Int.bmod_eq_of_le (by omega) (by omega)
theorem tI_sub {a b : Int32} (h : -2147483648 ≤ a.toInt - b.toInt ∧ a.toInt - b.toInt < 2147483648) : (a - b).toInt = a.toInt - b.toInt := by
  rw [Int32.toInt_sub]
  exact Int.bmod_eq_of_le (by omega) (by omega)
theorem tI_two {a : Int32} (h : -1000000000 ≤ a.toInt ∧ a.toInt < 1000000000) : (2 * a).toInt = 2 * a.toInt := by
  have e : (2 : Int32).toInt = 2 := rfl
  rw [Int32.toInt_mul, e]
  exact Int.bmod_eq_of_le (by omega) (by omega)
/-- how much a table takes when it grows -/
theorem grow_num {q n : Int32} (hq : 0 ≤ q ∧ q ≤ 300000) (hn : (q = 0 ∧ n = 4) ∨ (0 < q ∧ n = 2 * q)) : 0 < n.toInt ∧ n.toInt ≤ 600000 ∧ q.toInt < n.toInt ∧ (n.toInt = 4 ∨ n.toInt = 2 * q.toInt) := by
  have c0 : (0 : Int32).toInt = 0 := rfl
  have c3 : (300000 : Int32).toInt = 300000 := rfl
  have c4 : (4 : Int32).toInt = 4 := rfl
  simp only [i32_le, c0, c3] at hq
  rcases hn with ⟨e1, e2⟩ | ⟨e1, e2⟩
  · subst e1 e2
    rw [c4, c0]
    omega
  · have e := tI_two (a := q) (by omega)
    rw [i32_lt, c0] at e1
    rw [e2, e]
    omega
/-- what is in hand stays -/
def q_Hd (s s' : S1) : Prop := gI s' 2050 0 = gI s 2050 0 ∧ (∀ i, gA s' 17 0 i = gA s 17 0 i) ∧ ∀ i, gB s' 18 0 i = gB s 18 0 i
theorem q_Hd.trans {a b c : S1} (h : q_Hd a b) (k : q_Hd b c) : q_Hd a c := ⟨k.1.trans h.1, fun i => (k.2.1 i).trans (h.2.1 i), fun i => (k.2.2 i).trans (h.2.2 i)⟩
theorem q_Hd.gcx {s s' : S1} (h : Gcx s s') : q_Hd s s' := ⟨h.I 2050 (by decide) 0, fun i => h.A 17 (by decide) 0 i, fun i => h.2.2.2.1 18 0 i (by decide)⟩
theorem grow59_ok (s : S1) (t n : Int32) (h : GG s) (ht : Lv false s t 5) (hn : (a_second s t = 0 ∧ n = 4) ∨ (0 < a_second s t ∧ n = 2 * a_second s t)) (hra : f_roomAll s + n ≤ 300000) :
    ok (M_Mo_grow_j59 t n) s (fun r s' => Nx s s' ∧ (r = 0 ∨ r = 1) ∧ q_Hd s s' ∧ (r ≠ 0 → Lv false s' t 5 ∧ a_third s' t < a_second s' t ∧ a_second s' t = n ∧ a_third s' t ≤ a_third s t ∧ f_rooms s' = f_rooms s + (n - a_second s t))) := by
  obtain ⟨h1, h2, h3, h4, h5, -, -⟩ := h.tb ht
  have hnm := h.2.1.1
  have htop := h.1.1.1.2.1
  have sh := (h.1.1.1.2.2 t ht.1 ht.2.1).1.1 ht.2.2.1
  simp only [M_Mo_grow_j59, ok_B, ok_C, ok_R, ok_L, ok_K, ok_GI, ok_GL, ok_PI, ok_PL, ok_AI, ok_AL, ok_SI, ok_SL, ok_Pr, ok_CI, cmp_lt, cmp_le, cmp_gt, cmp_ge, cmp_eq, nar0, nar1, Sum.elim_inl, Sum.elim_inr]
  refine ⟨fun c => ⟨h1, ?_⟩, fun c => ok_mono (q_raise_ok s 10) fun v s' ⟨ev, es⟩ => ?_⟩
  · simp only [gI_sI, gI_sL, gI_sA, gI_sB, gI_sAf, gI_sBf, gL_sI, gL_sL, gL_sA, gL_sB, gL_sAf, gL_sBf, gA_sI, gA_sL, gA_sA, gA_sB, gA_sAf, gA_sBf, gB_sI, gB_sL, gB_sA, gB_sB, gB_sAf, gB_sBf, Nat.reduceEqDiff, Nat.reduceMul, Nat.reduceAdd, false_and, true_and, and_true, and_false, if_true, if_false]
    generalize es : sI (sI (sI (sI s 37 0 (gI s 37 0 + n)) 43 0 (gI s 43 0 + n)) 36 0 (gI s 36 0 + (n - gA s 63 0 t))) 41 0 (gI s 41 0 + n) = s1
    have hs : Tt s s1 := by
      rw [← es]
      exact ⟨fun f i a b c d => by simp only [gI_sI, gI_sL, gI_sA, gI_sB, gI_sAf, gI_sBf, gL_sI, gL_sL, gL_sA, gL_sB, gL_sAf, gL_sBf, gA_sI, gA_sL, gA_sA, gA_sB, gA_sAf, gA_sBf, gB_sI, gB_sL, gB_sA, gB_sB, gB_sAf, gB_sBf, Nat.reduceEqDiff, Nat.reduceMul, Nat.reduceAdd, false_and, true_and, and_true, and_false, if_true, if_false, a, b, c, d], fun _ _ => rfl, fun _ _ _ => rfl, fun _ _ _ => rfl⟩
    have e41 : f_entryTop s1 = f_entryTop s + n := by
      rw [← es]
      simp only [f_entryTop, gI_sI, gI_sL, gI_sA, gI_sB, gI_sAf, gI_sBf, gL_sI, gL_sL, gL_sA, gL_sB, gL_sAf, gL_sBf, gA_sI, gA_sL, gA_sA, gA_sB, gA_sAf, gA_sBf, gB_sI, gB_sL, gB_sA, gB_sB, gB_sAf, gB_sBf, Nat.reduceEqDiff, Nat.reduceMul, Nat.reduceAdd, false_and, true_and, and_true, and_false, if_true, if_false]
    have e43 : f_roomAll s1 = f_roomAll s + n := by
      rw [← es]
      simp only [f_roomAll, gI_sI, gI_sL, gI_sA, gI_sB, gI_sAf, gI_sBf, gL_sI, gL_sL, gL_sA, gL_sB, gL_sAf, gL_sBf, gA_sI, gA_sL, gA_sA, gA_sB, gA_sAf, gA_sBf, gB_sI, gB_sL, gB_sA, gB_sB, gB_sAf, gB_sBf, Nat.reduceEqDiff, Nat.reduceMul, Nat.reduceAdd, false_and, true_and, and_true, and_false, if_true, if_false]
    have e36 : f_rooms s1 = f_rooms s + (n - a_second s t) := by
      rw [← es]
      simp only [f_rooms, gI_sI, gI_sL, gI_sA, gI_sB, gI_sAf, gI_sBf, gL_sI, gL_sL, gL_sA, gL_sB, gL_sAf, gL_sBf, gA_sI, gA_sL, gA_sA, gA_sB, gA_sAf, gA_sBf, gB_sI, gB_sL, gB_sA, gB_sB, gB_sAf, gB_sBf, Nat.reduceEqDiff, Nat.reduceMul, Nat.reduceAdd, false_and, true_and, and_true, and_false, if_true, if_false]
    clear es
    have nn : (0 < n ∧ n ≤ 300000) ∧ f_entryTop s ≤ f_entryTop s + n ∧ f_entryTop s + n ≤ f_roomAll s + n ∧ a_third s t ≤ n ∧ a_third s t < n := by
      have g := grow_num h3 hn
      have c0 : (0 : Int32).toInt = 0 := rfl
      have c3 : (300000 : Int32).toInt = 300000 := rfl
      have x1 := Int32.toInt_lt (f_roomAll s)
      simp only [i32_le, i32_lt, c0, c3] at *
      have y1 := tI_add (a := f_roomAll s) (b := n) (by omega)
      have y2 := tI_add (a := f_entryTop s) (b := n) (by omega)
      omega
    have nx1 := Nx.tt h hs (by rw [e41]; exact nn.2.1) (by rw [e41, e43]; exact ⟨nn.2.2.1, hra⟩)
    have e2 : ∀ z, a_first s1 z = a_first s z ∧ a_second s1 z = a_second s z ∧ a_third s1 z = a_third s z := fun z => ⟨hs.2.2.1 62 0 z, hs.2.2.1 63 0 z, hs.2.2.1 64 0 z⟩
    have rg : ∀ y b m, q_Rg s1 y b m → q_Rg s y b m := fun y b m w => by
      unfold q_Rg at *
      simp only [f_used, a_sort, a_first, a_second, a_third, hs.2.2.1, hs.I 40 (by decide)] at w
      exact w
    refine ok_mono (q_move_ok s1 t (f_entryTop s) n nx1.1 ((Lv.tt hs).mpr ht) htop nn.1 (by rw [e41]; exact Int32.le_refl _) (fun y b m _ w j j1 j2 j3 j4 => ?_) (by rw [(e2 t).2.2]; exact nn.2.2.2.1) (Or.inr (by rw [(e2 t).1, (e2 t).2.1]; exact sh.2.2.2.2.2))) fun _ s2 ⟨nx2, mv⟩ => ?_
    · have q := ((rg y b m w).le h.1.1.1).2.2
      exact absurd (Int32.lt_of_lt_of_le j4 (Int32.le_trans q j1)) Int32.lt_irrefl
    · obtain ⟨m1, m2, m3, m4, m5, m6, m7, m8⟩ := id mv
      rw [(e2 t).2.2] at m8
      refine ⟨nx1.trans nx2, Or.inr (by trivial), ⟨(m1 2050 0).trans (hs.I 2050 (by decide) 0), fun i => (m3 17 0 i (by decide) (by decide) (by decide) (by decide) (by decide) (by decide) (by decide)).trans (hs.2.2.1 17 0 i), fun i => (m4 18 0 i (by decide) (by decide)).trans (hs.2.2.2 18 0 i)⟩, fun _ => ⟨(Lv.mv mv).mpr ((Lv.tt hs).mpr ht), ?_, m6, m8, (m1 36 0).trans e36⟩⟩
      rw [m6]
      exact Int32.lt_of_le_of_lt m8 nn.2.2.2.2
  · subst ev es
    exact ⟨Nx.raise h 10 _ (by decide), Or.inl (by trivial), ⟨by simp only [gI_sI, gI_sL, gI_sA, gI_sB, gI_sAf, gI_sBf, gL_sI, gL_sL, gL_sA, gL_sB, gL_sAf, gL_sBf, gA_sI, gA_sL, gA_sA, gA_sB, gA_sAf, gA_sBf, gB_sI, gB_sL, gB_sA, gB_sB, gB_sAf, gB_sBf, Nat.reduceEqDiff, Nat.reduceMul, Nat.reduceAdd, false_and, true_and, and_true, and_false, if_true, if_false], fun _ => rfl, fun _ => rfl⟩, fun z => absurd rfl z⟩
theorem grow_ok (s : S1) (t : Int32) (h : GG s) (ht : Lv false s t 5) (hh : ∃ i, 0 ≤ i ∧ i < v_hand_n s ∧ v_hand_k s i = 5 ∧ v_hand_v s i = t.toInt64) (hnc : f_noCollection s = 0 ∨ (f_rooms s = a_second s t ∧ a_second s t ≤ 96)) :
    ok (M_Mo_grow t) s (fun r s' => Nx s s' ∧ (r = 0 ∨ r = 1) ∧ q_Hd s s' ∧ (r ≠ 0 → Lv false s' t 5 ∧ a_third s' t < a_second s' t) ∧ (f_noCollection s ≠ 0 → r ≠ 0 → (a_second s' t = 4 ∨ a_second s' t = 2 * a_second s t) ∧ f_rooms s' = a_second s' t ∧ a_third s' t ≤ a_third s t)) := by
  obtain ⟨h1, h2, h3, h4, h5, -, -⟩ := h.tb ht
  have key : ∀ n, ((a_second s t = 0 ∧ n = 4) ∨ (0 < a_second s t ∧ n = 2 * a_second s t)) → ok (M_Mo_grow_j21 t n) s (fun r s' => Nx s s' ∧ (r = 0 ∨ r = 1) ∧ q_Hd s s' ∧ (r ≠ 0 → Lv false s' t 5 ∧ a_third s' t < a_second s' t) ∧ (f_noCollection s ≠ 0 → r ≠ 0 → (a_second s' t = 4 ∨ a_second s' t = 2 * a_second s t) ∧ f_rooms s' = a_second s' t ∧ a_third s' t ≤ a_third s t)) := fun n hn => by
    simp only [M_Mo_grow_j21, ok_B, ok_C, ok_R, ok_L, ok_K, ok_GI, ok_GL, ok_PI, ok_PL, ok_AI, ok_AL, ok_SI, ok_SL, ok_Pr, ok_CI, cmp_lt, cmp_le, cmp_gt, cmp_ge, cmp_eq, nar0, nar1, Sum.elim_inl, Sum.elim_inr]
    refine ⟨fun c => ⟨fun d => ok_mono (grow59_ok s t n h ht hn c) fun r s' ⟨q1, q2, q3, q4⟩ => ⟨q1, q2, q3, fun z => ⟨(q4 z).1, (q4 z).2.1⟩, fun y z => ?_⟩, fun d => ?_⟩, fun c => ok_mono (q_raise_ok s 11) fun v s' ⟨ev, es⟩ => ?_⟩
    · obtain ⟨-, -, w1, w2, w3⟩ := q4 z
      rcases hnc with w | w
      · exact absurd w y
      · refine ⟨?_, ?_, w2⟩
        · rw [w1]
          rcases hn with g | g
          · exact Or.inl g.2
          · exact Or.inr g.2
        · rw [w3, w.1, w1]
          clear q4 q1 q3 h
          grind
    · rcases hnc with w | w
      · obtain ⟨r1, r2⟩ := h.1.2 w
        refine ok_mono (gc_ok s (Hp.mk h.1.1 r1 r2)) fun _ s0 ⟨hp, hg⟩ => ?_
        have gm0 : Gm s0 := ⟨hp.q, fun _ => ⟨hp.2.2.2.2.2.2.1, hp.2.2.2.2.2.2.2⟩⟩
        have nx0 : Nx s s0 := Nx.gcx h gm0 hg.x ⟨Or.inl (hg.1 73 0 (by decide) (by decide) (by decide) (by decide) (by decide) (by decide) (by decide) (by decide) (by decide)), fun z => absurd w z⟩
        have hd0 := q_Hd.gcx hg.x
        obtain ⟨i, i1, i2, i3, i4⟩ := hh
        have ht0 : Lv false s0 t 5 := by
          have q := nx0.1.2.2.2.1.2.2.2.2.1 i i1 (by rw [Int32.zero_add]; show i < gI s0 2050 0; rw [hd0.1]; exact i2)
          have q' : Wl false s0 (gA s0 17 0 i) (gB s0 18 0 i) := q
          rw [hd0.2.1, hd0.2.2] at q'
          have e1 : gA s 17 0 i = 5 := i3
          have e2 : gB s 18 0 i = t.toInt64 := i4
          rw [e1, e2] at q'
          rcases q' with (q | q | q) | q
          · exact absurd q.2 (by decide)
          · exact absurd q.1 (by decide)
          · have := q.2.2.2.2
            rw [i64_back] at this
            exact this
          · exact absurd q.1 (by decide)
        have e63 : a_second s0 t = a_second s t := hg.x.A 63 (by decide) 0 t
        have e43 : f_roomAll s0 = f_roomAll s := hg.I 43 (by decide) 0
        refine ok_mono (grow59_ok s0 t n nx0.1 ht0 (by rw [e63]; exact hn) (by rw [e43]; exact c)) fun r s' ⟨q1, q2, q3, q4⟩ => ⟨nx0.trans q1, q2, hd0.trans q3, fun z => ⟨(q4 z).1, (q4 z).2.1⟩, fun y => absurd w y⟩
      · exfalso
        apply d
        rw [show gI s 36 0 = a_second s t from w.1]
        have g := grow_num h3 hn
        have c0 : (0 : Int32).toInt = 0 := rfl
        have c4 : (40000 : Int32).toInt = 40000 := rfl
        have c9 : (96 : Int32).toInt = 96 := rfl
        have w2 := w.2
        have z3 := h3.1
        rw [i32_le, c9] at w2
        rw [i32_le, c0] at z3
        rw [i32_le, tI_add (by omega), c4]
        omega
    · subst ev es
      exact ⟨Nx.raise h 11 _ (by decide), Or.inl (by trivial), ⟨by simp only [gI_sI, gI_sL, gI_sA, gI_sB, gI_sAf, gI_sBf, gL_sI, gL_sL, gL_sA, gL_sB, gL_sAf, gL_sBf, gA_sI, gA_sL, gA_sA, gA_sB, gA_sAf, gA_sBf, gB_sI, gB_sL, gB_sA, gB_sB, gB_sAf, gB_sBf, Nat.reduceEqDiff, Nat.reduceMul, Nat.reduceAdd, false_and, true_and, and_true, and_false, if_true, if_false], fun _ => rfl, fun _ => rfl⟩, fun z => absurd rfl z, fun _ z => absurd rfl z⟩
  simp only [M_Mo_grow, ok_B, ok_C, ok_R, ok_L, ok_K, ok_GI, ok_GL, ok_PI, ok_PL, ok_AI, ok_AL, ok_SI, ok_SL, ok_Pr, ok_CI, cmp_lt, cmp_le, cmp_gt, cmp_ge, cmp_eq, nar0, nar1, Sum.elim_inl, Sum.elim_inr]
  refine ⟨h1, fun c => key 4 (Or.inl ⟨c, rfl⟩), fun c => ⟨h1, key _ (Or.inr ⟨Int32.lt_of_le_of_ne h3.1 (fun e => c e.symm), rfl⟩)⟩⟩
