/-! A new thread. -/
theorem chN_in {s s' : S1} (hc : f_current s' = f_current s) (hr : ∀ u, 0 ≤ t_place s u → t_resumer s' u = t_resumer s u) (hp : ∀ n, 0 ≤ chN s n → 0 ≤ t_place s (chN s n)) (n : Nat) : chN s' n = chN s n := by
  induction n with
  | zero => exact hc
  | succ n ih =>
    show (if chN s' n < 0 then -1 else t_resumer s' (chN s' n)) = if chN s n < 0 then -1 else t_resumer s (chN s n)
    rw [ih]
    by_cases c : chN s n < 0
    · rw [if_pos c, if_pos c]
    · rw [if_neg c, if_neg c, hr _ (hp n (Int32.not_lt.mp c))]
/-- a free thread's own things are written, and the count -/
def Ft (s s' : S1) (t : Int32) : Prop := (∀ f i, (f ≠ 39 ∧ f ≠ 3584 ∧ f ≠ 3585 ∧ f ≠ 3586 ∧ f ≠ 3587 ∧ f ≠ 3588 ∧ f ≠ 3589 ∧ f ≠ 3202 ∧ f ≠ 3590) ∨ (f ≠ 39 ∧ i ≠ t) → gI s' f i = gI s f i) ∧ (∀ f i, gL s' f i = gL s f i) ∧ (∀ a i j, a ≠ 26 ∨ i ≠ t → gA s' a i j = gA s a i j) ∧ (∀ a i j, a ≠ 27 ∨ i ≠ t → gB s' a i j = gB s a i j) ∧ gI s' 3590 t = -1
theorem Ft.I {s s' : S1} {t : Int32} (h : Ft s s' t) (f : Nat) (hf : f ≠ 39 ∧ f ≠ 3584 ∧ f ≠ 3585 ∧ f ≠ 3586 ∧ f ≠ 3587 ∧ f ≠ 3588 ∧ f ≠ 3589 ∧ f ≠ 3202 ∧ f ≠ 3590) (i : Int32) : gI s' f i = gI s f i := h.1 f i (Or.inl hf)
theorem Ft.J {s s' : S1} {t u : Int32} (h : Ft s s' t) (hu : u ≠ t) (f : Nat) (hf : f ≠ 39) : gI s' f u = gI s f u := h.1 f u (Or.inr ⟨hf, hu⟩)
theorem Ft.A {s s' : S1} {t : Int32} (h : Ft s s' t) (a : Nat) (ha : a ≠ 26) (i j : Int32) : gA s' a i j = gA s a i j := h.2.2.1 a i j (Or.inl ha)
theorem Ft.B {s s' : S1} {t : Int32} (h : Ft s s' t) (a : Nat) (ha : a ≠ 27) (i j : Int32) : gB s' a i j = gB s a i j := h.2.2.2.1 a i j (Or.inl ha)
theorem Lv.ft {m : Bool} {s s' : S1} {x k t : Int32} (hs : Ft s s' t) : Lv m s' x k ↔ Lv m s x k := by
  unfold Lv
  simp only [f_used, a_sort, a_marked, hs.I 40 (by decide), hs.A 58 (by decide), hs.A 59 (by decide)]
theorem Vl.ft {m : Bool} {s s' : S1} {k : Int32} {v : Int64} {t : Int32} (hs : Ft s s' t) : Vl m s' k v ↔ Vl m s k v := by
  unfold Vl
  simp only [Lv.ft hs]
theorem Wl.ft {m : Bool} {s s' : S1} {k : Int32} {v : Int64} {t : Int32} (hs : Ft s s' t) : Wl m s' k v ↔ Wl m s k v := by
  unfold Wl
  simp only [Vl.ft hs, Lv.ft hs]
theorem Ts.ft {s s' : S1} {u t : Int32} (h : Ts s u) (hs : Ft s s' t) (hu : u ≠ t) : Ts s' u := by
  have A : ∀ a j, gA s' a u j = gA s a u j := fun a j => hs.2.2.1 a u j (Or.inr hu)
  unfold Ts FrS at *
  simp only [v_start_n, t_frames, t_openCount, t_kind, t_function, t_extra, t_base, t_rowCount, a_first, a_registers, A, hs.J hu 3202 (by decide), hs.J hu 3586 (by decide), hs.J hu 3587 (by decide), hs.A 62 (by decide), hs.A 44 (by decide)] at *
  exact h
theorem ThV.ft {s s' : S1} {u t : Int32} (h : ThV false s u) (hs : Ft s s' t) (hu : u ≠ t) : ThV false s' u := by
  have A : ∀ a j, gA s' a u j = gA s a u j := fun a j => hs.2.2.1 a u j (Or.inr hu)
  have B : ∀ a j, gB s' a u j = gB s a u j := fun a j => hs.2.2.2.1 a u j (Or.inr hu)
  unfold ThV FrV at *
  simp only [Vl.ft hs, Lv.ft hs]
  simp only [v_start_n, v_start_k, v_start_v, t_frames, t_openCount, t_open, t_kind, t_function, t_extra, t_base, t_rowCount, a_first, a_registers, v_stack_k, v_stack_v, v_row_k, v_row_v, A, B, hs.J hu 3202 (by decide), hs.J hu 3586 (by decide), hs.J hu 3587 (by decide), hs.A 62 (by decide), hs.A 44 (by decide)] at *
  exact h
theorem sp_ft {s s' : S1} {t x : Int32} (hs : Ft s s' t) (h1 : Sh s x) (h2 : PcV false s x) (hz : a_sort s x = 7 → a_first s x ≠ t) : Sh s' x ∧ PcV false s' x := by
  have et : f_entryTop s' = f_entryTop s := hs.I 41 (by decide) 0
  have es : ∀ z, a_sort s' z = a_sort s z := fun z => hs.A 58 (by decide) 0 z
  have e1 : ∀ z, a_first s' z = a_first s z := fun z => hs.A 62 (by decide) 0 z
  have e2 : ∀ z, a_second s' z = a_second s z := fun z => hs.A 63 (by decide) 0 z
  have e3 : ∀ z, a_third s' z = a_third s z := fun z => hs.A 64 (by decide) 0 z
  obtain ⟨a5, a6, a7, a8⟩ := h1
  obtain ⟨c5, c6, c7, c8⟩ := h2
  refine ⟨⟨fun y => ?_, fun y => ?_, fun y => ?_, fun y => ?_⟩, ⟨fun y => ?_, fun y => ?_, fun y => ?_, fun y => ?_⟩⟩ <;> rw [es] at y
  · rw [e1, e2, e3, et]
    exact a5 y
  · rw [e1, e2, e3, et]
    exact a6 y
  · rw [e1]
    refine ⟨(a7 y).1, (a7 y).2.1, ?_, (a7 y).2.2.2.ft hs (hz y)⟩
    show gI s' 3584 _ = _
    rw [hs.J (hz y) 3584 (by decide)]
    exact (a7 y).2.2.1
  · rw [e1, e2]
    exact a8 y
  · have w := c5 y
    unfold TbV at *
    rw [e1, e3]
    simp only [Vl.ft hs, Lv.ft hs]
    simp only [a_chain, a_ek, a_ev, a_vk, a_vv, hs.A 65 (by decide), hs.A 69 (by decide), hs.A 70 (by decide), hs.B 71 (by decide), hs.B 72 (by decide)] at *
    exact w
  · have w := c6 y
    unfold FnV at *
    rw [e1, e2, e3]
    simp only [Lv.ft hs]
    simp only [a_follow, hs.A 73 (by decide)] at *
    exact w
  · rw [e1]
    exact (c7 y).ft hs (hz y)
  · have w := c8 y
    unfold VrV at *
    rw [e1, e2]
    simp only [Vl.ft hs]
    simp only [v_stack_k, v_stack_v, v_variable_k, v_variable_v, hs.A 20 (by decide), hs.B 21 (by decide), hs.A 5 (by decide), hs.B 6 (by decide)] at *
    exact w
theorem GG.mkt {s s1 s' : S1} {x t : Int32} (h : GG s) (hM : Mk2 s s1 x 7) (hnm : Nm s1) (hst : Str s1) (ht : 0 ≤ t ∧ t < 33) (hf : t_place s t < 0) (e1 : a_first s1 x = t) (hs : Ft s1 s' t) (ep : t_place s' t = x) (ec : f_coroutines s' = f_coroutines s + 1) (hT : Ts s' t) (hV : ThV false s' t) (ho : t_openCount s' t = 0) : GG s' := by
  have hx5 : Ex s1 := h.2.2.1.mk2 h.1.1.1 hM (fun z => absurd z (by decide)) (fun z => absurd z (by decide))
  have hrw := h.2.2.2.1.mk2 hM
  have htc := h.2.2.2.2
  obtain ⟨⟨⟨v1, v2, v3⟩, -, -, hov, hcv, htp, -⟩, hroots⟩ := h.1
  have htop := hM.2.2.2.2.2.2.2.2.2.2.2.2.1
  have hfr := hM.2.2.2.2.1
  have hne : ∀ u, 0 ≤ t_place s u → u ≠ t := fun u w e => by
    rw [e] at w
    exact absurd (Int32.lt_of_le_of_lt w hf) Int32.lt_irrefl
  have eP1 : ∀ u, t_place s1 u = t_place s u := fun u => hM.I 3584 (by decide) u
  have eP : ∀ u, u ≠ t → t_place s' u = t_place s u := fun u w => (hs.J w 3584 (by decide)).trans (eP1 u)
  have eO : ∀ u, u ≠ t → t_openCount s' u = t_openCount s u := fun u w => (hs.J w 3587 (by decide)).trans (hM.I 3587 (by decide) u)
  have eT : ∀ u j, t_open s' u j = t_open s u j := fun u j => (hs.A 29 (by decide) u j).trans (hM.A 29 (by decide) u j)
  have eu : f_used s' = f_used s1 := hs.I 40 (by decide) 0
  have ef : ∀ z, a_first s' z = a_first s1 z := fun z => hs.A 62 (by decide) 0 z
  have es : ∀ z, a_sort s' z = a_sort s1 z := fun z => hs.A 58 (by decide) 0 z
  have ett : f_entryTop s' = f_entryTop s1 := hs.I 41 (by decide) 0
  have hu' : 0 ≤ f_used s' ∧ f_used s' ≤ 4000 := by
    rw [eu]
    exact ⟨Int32.le_of_lt (Int32.lt_of_le_of_lt hM.1.1 hM.1.2.1), hM.1.2.2⟩
  have s7 : a_sort s' x = 7 := by rw [es, hM.S, if_pos rfl]
  have lx : Lv false s' x 7 := ⟨hM.1.1, by rw [eu]; exact hM.1.2.1, s7, fun z => by cases z⟩
  have lo : ∀ y k, Lv false s y k → k ≠ 0 → Lv false s' y k := fun y k w q => (Lv.ft hs).mpr (w.mk2 hM q)
  have n7 : ∀ k, k ≠ 7 → a_sort s' x ≠ k := fun k q w => q (w.symm.trans s7)
  have hrw' : Rws s' := by
    unfold Rws RvV RwV at *
    simp only [Vl.ft hs, Wl.ft hs]
    simp only [v_hand_n, v_args_n, v_results_n, v_ended_n, f_errorKind, f_errorValue, f_calledKind, f_called, Nat.reduceMul, Nat.reduceAdd, hs.2.1, hs.I 64 (by decide), hs.I 75 (by decide), hs.I 2050 (by decide), hs.I 898 (by decide), hs.I 1282 (by decide), hs.I 1666 (by decide), hs.A 8 (by decide), hs.A 11 (by decide), hs.A 14 (by decide), hs.A 17 (by decide), hs.B 9 (by decide), hs.B 12 (by decide), hs.B 15 (by decide), hs.B 18 (by decide)] at *
    exact hrw
  refine ⟨⟨⟨⟨?_, ?_, fun z a b => ?_⟩, ?_, ?_, fun u t1 t2 t3 => ?_, fun y hy hfy => ?_, fun u t1 t2 t3 => ?_, hu'⟩, fun z => ?_⟩, ?_, ?_, hrw', ?_⟩
  · unfold Rm at *
    simp only [p_ek, p_vk, p_ev, p_vv, p_follow, p_bucket, hs.I 8959 (by decide), hs.I 9087 (by decide), hs.I 9215 (by decide), hs.I 9343 (by decide), hs.I 9471 (by decide), hs.I 9599 (by decide), hM.I 8959 (by decide), hM.I 9087 (by decide), hM.I 9215 (by decide), hM.I 9343 (by decide), hM.I 9471 (by decide), hM.I 9599 (by decide)] at *
    exact v1
  · rw [ett]
    exact ⟨Int32.le_trans v2.1 htop.1, htop.2⟩
  · by_cases c : z = x
    · rw [c]
      refine ⟨⟨fun y => absurd y (n7 5 (by decide)), fun y => absurd y (n7 6 (by decide)), fun _ => ?_, fun y => absurd y (n7 8 (by decide))⟩, fun y => absurd y (n7 5 (by decide)), fun y => absurd y (n7 6 (by decide)), fun _ => ?_, fun y => absurd y (n7 8 (by decide))⟩
      · rw [ef, e1]
        exact ⟨ht.1, ht.2, ep, hT⟩
      · rw [ef, e1]
        exact hV
    · rw [eu] at b
      have b' := hM.2.2.1 z c b
      obtain ⟨w1, w2⟩ := old_mk2 (v3 z a b').1 (v3 z a b').2 c v2 hM
      refine sp_ft hs w1 w2 fun q w => ?_
      have := (w1.2.2.1 q).2.2.1
      rw [w, eP1] at this
      rw [this] at hf
      exact absurd (Int32.lt_of_le_of_lt a hf) Int32.lt_irrefl
  · exact hst.sq ⟨fun a j ha => hs.A a (by rcases ha with w | w | w | w | w | w | w <;> rw [w] <;> decide) 0 j, hs.I 40 (by decide) 0, hs.I 38 (by decide) 0⟩
  · unfold Frl at *
    simp only [f_freed, f_existing, f_used, a_free, a_sort, hs.I 54 (by decide), hs.I 34 (by decide), hs.I 40 (by decide), hs.A 66 (by decide), hs.A 58 (by decide)] at *
    exact hfr
  · by_cases c : u = t
    · rw [c, ho]
      exact ⟨fun k a b => absurd (Int32.lt_of_le_of_lt a b) Int32.lt_irrefl, fun k j a b d => absurd (Int32.lt_of_le_of_lt a (Int32.lt_trans b d)) Int32.lt_irrefl⟩
    · rw [eP u c] at t3
      rw [eO u c]
      simp only [eT]
      obtain ⟨w1, w2⟩ := hov u t1 t2 t3
      refine ⟨fun j a b => ⟨lo _ _ (w1 j a b).1 (by decide), ?_⟩, w2⟩
      rw [ef, (hM.P (hM.ne (w1 j a b).1 (by decide))).1]
      exact (w1 j a b).2
  · have hy1 := (Lv.ft hs).mp hy
    have c : y ≠ x := fun c => by
      have e := hy.2.2.1
      rw [c] at e
      exact n7 8 (by decide) e
    have e := hy1.2.2.1
    rw [hM.S, if_neg c] at e
    have hy' : Lv false s y 8 := ⟨hy.1, hM.2.2.1 y c hy1.2.1, e, fun z => by cases z⟩
    rw [ef, (hM.P c).1] at hfy ⊢
    have q := hcv y hy' hfy
    have d := hne _ q.1
    rw [eP _ d, eO _ d]
    simp only [eT]
    exact q
  · by_cases c : u = t
    · rw [c, ep]
      refine ⟨lx, ?_⟩
      rw [ef]
      exact e1
    · rw [eP u c] at t3 ⊢
      obtain ⟨w1, w2⟩ := htp u t1 t2 t3
      refine ⟨lo _ _ w1 (by decide), ?_⟩
      rw [ef, (hM.P (hM.ne w1 (by decide))).1]
      exact w2
  · have z' : f_noCollection s = 0 := by
      have : gI s' 92 0 = 0 := z
      rw [hs.I 92 (by decide), hM.I 92 (by decide)] at this
      exact this
    obtain ⟨⟨r1, ⟨ρ, r2⟩, r3⟩, q1, q2, q3, -⟩ := hroots z'
    have eR : ∀ u, u ≠ t → t_resumer s' u = t_resumer s u := fun u w => (hs.J w 3590 (by decide)).trans (hM.I 3590 (by decide) u)
    have e := chN_in (s := s) (s' := s') ((hs.I 72 (by decide) 0).trans (hM.I 72 (by decide) 0)) (fun u w => eR u (hne u w)) (fun n a => (q3 n a).1)
    obtain ⟨w1, w2, w3, w4, w5, w6, w7, w8, w9, w10⟩ := hrw'
    have rw1 : ∀ r, RvV s' r → RwV false s' r := fun r q i a b => Or.inl (q i a (by rw [Int32.zero_add] at b; exact b))
    refine ⟨⟨?_, ⟨ρ, ?_⟩, w1, w2, w3, w4, hu'⟩, ?_, ?_, ?_, w5, rw1 7 w6, rw1 10 w7, w9, rw1 13 w8, w10, fun _ _ _ _ _ z => by cases z⟩
    · show 0 ≤ gI s' 72 0 ∧ gI s' 72 0 < 33
      rw [hs.I 72 (by decide), hM.I 72 (by decide)]
      exact r1
    · intro u a b w
      by_cases d : u = t
      · rw [d] at w
        exact absurd hs.2.2.2.2 w
      · rw [eR u d] at w ⊢
        exact r2 u a b w
    · show Lv false s' (gI s' 74 0) 5
      rw [hs.I 74 (by decide), hM.I 74 (by decide)]
      exact lo _ _ q1 (by decide)
    · rw [eP 0 (hne 0 q2.1)]
      exact lo _ _ q2 (by decide)
    · intro n a
      rw [e n] at a ⊢
      rw [eP _ (hne _ (q3 n a).1)]
      exact lo _ _ (q3 n a) (by decide)
  · unfold Nm at *
    simp only [f_entryTop, f_roomAll, f_textMade, f_textAll, f_made, f_madeAll, f_limit, f_used, a_sort, a_tag, a_second, hs.I 41 (by decide), hs.I 43 (by decide), hs.I 38 (by decide), hs.I 44 (by decide), hs.I 33 (by decide), hs.I 42 (by decide), hs.I 32 (by decide), hs.I 40 (by decide), hs.A 58 (by decide), hs.A 61 (by decide), hs.A 63 (by decide)] at *
    exact hnm
  · unfold Ex q_Dj q_Rg Tch Fu at *
    simp only [f_used, f_protos, a_sort, a_first, a_second, a_third, a_bucket, a_follow, a_upvalues, hs.I 40 (by decide), hs.I 23 (by decide), hs.A 58 (by decide), hs.A 62 (by decide), hs.A 63 (by decide), hs.A 64 (by decide), hs.A 73 (by decide), hs.A 74 (by decide), hs.A 45 (by decide)] at *
    exact hx5
  · unfold Tc at *
    rw [ec, htc, tcn_one ht (Int32.not_le.mpr hf) (by rw [ep]; exact hM.1.1) (fun y w => eP y w), Int32.ofNat_add]
    rfl
/-- the frames with a thread more -/
theorem Fr.ft {τ : Bool} {s s' : S1} {t : Int32} (h : Fr τ s) (hs : Ft s s' t) (hf : t_place s t < 0) (e1 : t_state s' t = 0) (e2 : t_frames s' t = 0) (e3 : 0 < v_start_n s' t) : Fr τ s' := by
  obtain ⟨h1, h2, h3, h4⟩ := h
  have hne : ∀ u, 0 ≤ t_place s u → u ≠ t := fun u w e => by
    rw [e] at w
    exact absurd (Int32.lt_of_le_of_lt w hf) Int32.lt_irrefl
  have eR : ∀ u, u ≠ t → t_resumer s' u = t_resumer s u := fun u w => hs.J w 3590 (by decide)
  have hch : ∀ n, chN s' n = chN s n := chN_in (hs.I 72 (by decide) 0) (fun u w => eR u (hne u w)) h3.2.2.2.2.2.2.2.2.1
  have fl : ∀ x, FL s' x ↔ FL s x := fun x => by
    unfold FL
    rw [Lv.ft hs]
    simp only [a_fixed, hs.A 60 (by decide)]
  have eP : ∀ u, u ≠ t → t_place s' u = t_place s u := fun u w => hs.J w 3584 (by decide)
  have eS : ∀ u, u ≠ t → t_state s' u = t_state s u := fun u w => hs.J w 3585 (by decide)
  refine ⟨?_, ?_, ?_, fun u a b c f d e => ?_⟩
  · unfold Pg Pp Wf Wn Gs Rr Rq at *
    simp only [wd, f_protos, f_constCount, a_params, a_registers, a_upvalues, a_upAt, a_constAt, a_consts, a_codeAt, a_codes, a_childAt, a_children, a_child, a_ups, a_code, hs.I 23 (by decide), hs.I 25 (by decide), hs.A 42 (by decide), hs.A 43 (by decide), hs.A 44 (by decide), hs.A 45 (by decide), hs.A 46 (by decide), hs.A 47 (by decide), hs.A 48 (by decide), hs.A 49 (by decide), hs.A 50 (by decide), hs.A 51 (by decide), hs.A 52 (by decide), hs.A 53 (by decide), hs.A 54 (by decide), hs.A 55 (by decide)] at *
    exact h1
  · unfold Fx4 Kc at *
    simp only [fl]
    simp only [f_constCount, a_event, a_kindName, a_stateName, v_constants_k, v_constants_v, hs.I 25 (by decide), hs.A 2 (by decide), hs.A 82 (by decide), hs.A 83 (by decide), hs.A 84 (by decide), hs.B 3 (by decide)] at *
    exact h2
  · obtain ⟨t1, t2, t3, t4, t5, t6, t7, t8, t9, t10, t11⟩ := h3
    have ecu : f_current s' = f_current s := hs.I 72 (by decide) 0
    unfold Ths
    simp only [hch, ecu]
    refine ⟨t1, ?_, fun u a b c d => ?_, fun n n1 n2 => ?_, fun u a b c d => ?_, fun n a b => ?_, ?_, ?_, fun n q => ?_, fun u a b c => ?_, fun u a b c d g => ?_⟩
    · have ne : f_current s ≠ t := hne _ (t9 0 t1.1)
      rw [eS _ ne]
      exact t2
    · by_cases w : u = t
      · rw [w] at d
        exact absurd hs.2.2.2.2 d
      · rw [eP u w] at c
        rw [eR u w] at d
        exact t3 u a b c d
    · have ne := hne _ (t9 n n2)
      have ef : t_frames s' (chN s n) = t_frames s (chN s n) := hs.J ne 3586 (by decide)
      have ek : ∀ j, t_kind s' (chN s n) j = t_kind s (chN s n) j := fun j => hs.A 30 (by decide) _ _
      rw [ef, ek, eS _ ne]
      exact t4 n n1 n2
    · by_cases w : u = t
      · rw [w, e1] at d
        exact absurd d (by decide)
      · rw [eP u w] at c
        rw [eS u w] at d
        exact t5 u a b c d
    · rw [eR _ (hne _ (t9 n a))]
      exact t6 n a b
    · rw [eR 0 (hne 0 t8)]
      exact t7
    · rw [eP 0 (hne 0 t8)]
      exact t8
    · rw [eP _ (hne _ (t9 n q))]
      exact t9 n q
    · by_cases w : u = t
      · rw [w, e1]
        exact ⟨by decide, by decide⟩
      · rw [eP u w] at c
        rw [eS u w]
        exact t10 u a b c
    · by_cases w : u = t
      · rw [w]
        exact ⟨e1, e3⟩
      · rw [eP u w] at c
        rw [eS u w]
        have eb : t_begun s' u = t_begun s u := hs.J w 3589 (by decide)
        have ev : v_start_n s' u = v_start_n s u := hs.J w 3202 (by decide)
        rw [eb] at g
        rw [ev]
        exact t11 u a b c d g
  · by_cases w : u = t
    · rw [w, e2] at e
      exact absurd (Int32.lt_of_le_of_lt d e) Int32.lt_irrefl
    · rw [eP u w] at c
      have ef : t_frames s' u = t_frames s u := hs.J w 3586 (by decide)
      rw [ef] at e
      have kk := h4 u a b c f d e
      have r : ∀ a, gA s' a u f = gA s a u f := fun a => hs.2.2.1 a u f (Or.inr w)
      unfold Fi Wt mks us Gs pf at *
      rw [ef]
      simp only [wd, f_current, t_kind, t_extra, t_pc, t_rowCount, t_mode, t_want, t_into, t_step, t_function, a_first, a_codes, a_registers, a_codeAt, a_code, r, hs.I 72 (by decide), hs.A 62 (by decide), hs.A 50 (by decide), hs.A 44 (by decide), hs.A 49 (by decide), hs.A 55 (by decide)] at *
      exact kk
theorem free_num {x : Int32} (x0 : 0 ≤ x) (hx : x < 33) : (0 ≤ x + 1 ∧ x + 1 ≤ 33) ∧ (33 - (x + 1)).toNatClampNeg < (33 - x).toNatClampNeg ∧ ∀ y, y < x + 1 → y < x ∨ y = x := ⟨⟨by grind, by grind⟩, clamp_lt (by grind) (by grind), fun y a => by grind⟩
theorem small_of {n : Nat} (h : n < 33) : 0 ≤ Int32.ofNat n ∧ Int32.ofNat n < 33 := by
  have c0 : (0 : Int32).toInt = 0 := rfl
  have c1 : (33 : Int32).toInt = 33 := rfl
  rw [i32_le, i32_lt, c0, c1, Int32.toInt_ofNat_of_lt (by omega)]
  omega
theorem free_ok (s : S1) (hc : Tc s) (hl : f_coroutines s < 32) : ok (oW M_Mo_thread__L12 0) s (fun t s' => s' = s ∧ (0 ≤ t ∧ t < 33) ∧ t_place s t < 0 ∧ ∀ y, 0 ≤ y → y < t → 0 ≤ t_place s y) := by
  refine ok_W (fun x s' => s' = s ∧ (0 ≤ x ∧ x ≤ 33) ∧ ∀ y, 0 ≤ y → y < x → 0 ≤ t_place s y) (fun x _ => (33 - x).toNatClampNeg) ?_ (0 : Int32) s ⟨rfl, ⟨(show (0 : Int32) ≤ 0 by decide), (show (0 : Int32) ≤ 33 by decide)⟩, fun y a b => absurd (Int32.lt_of_le_of_lt a b) Int32.lt_irrefl⟩
  rintro x s1 ⟨es, ⟨x0, x1⟩, hy⟩
  have hx : x < 33 := by
    refine Int32.lt_of_le_of_ne x1 fun e => ?_
    rw [e] at hy
    have : tcn s = 33 := by
      unfold tcn
      have q := (List.countP_eq_length (p := fun n => decide (0 ≤ t_place s (Int32.ofNat n))) (l := List.range 33)).mpr (fun n hn => decide_eq_true (hy _ (small_of (List.mem_range.mp hn)).1 (small_of (List.mem_range.mp hn)).2))
      rw [q, List.length_range]
    unfold Tc at hc
    rw [this] at hc
    rw [hc] at hl
    exact absurd hl (by decide)
  obtain ⟨n1, n2, n3⟩ := free_num x0 hx
  rw [es]
  simp only [M_Mo_thread__L12, ok_B, ok_C, ok_R, ok_L, ok_K, ok_GI, ok_GL, ok_PI, ok_PL, ok_AI, ok_AL, ok_SI, ok_SL, ok_Pr, ok_CI, cmp_lt, cmp_le, cmp_gt, cmp_ge, cmp_eq, nar0, nar1, Sum.elim_inl, Sum.elim_inr]
  refine ⟨⟨x0, hx⟩, fun c => ⟨by trivial, ⟨x0, hx⟩, c, hy⟩, fun c => ⟨⟨by trivial, n1, fun y a b => ?_⟩, n2⟩⟩
  rcases n3 y b with q | q
  · exact hy y a q
  · rw [q]
    exact Int32.not_lt.mp c
/-- a thread was made; s0 stands behind a collection that may have come, s1 has the new place -/
def Nt (s s0 s1 s' : S1) (v t : Int32) : Prop := GG s0 ∧ Gc s s0 ∧ Kl s s0 ∧ Mk2 s0 s1 v 7 ∧ Nm s1 ∧ Str s1 ∧ (0 ≤ t ∧ t < 33) ∧ t_place s0 t < 0 ∧ a_first s1 v = t ∧ Ft s1 s' t ∧ t_place s' t = v ∧ t_state s' t = 0 ∧ t_frames s' t = 0 ∧ t_openCount s' t = 0 ∧ v_start_n s' t = 0 ∧ f_coroutines s' = f_coroutines s0 + 1 ∧ ∀ y, 0 ≤ y → y < t → 0 ≤ t_place s0 y
theorem thread__ok (s : S1) (h : GG s) : ok M_Mo_thread_ s (fun v s' => (v = -1 ∧ GG s' ∧ Gcx s s' ∧ Kl s s') ∨ ∃ s0 s1 t, Nt s s0 s1 s' v t) := by
  have hl := h.2.1.2.2.2.1
  simp only [M_Mo_thread_, M_Th_begin, ok_B, ok_C, ok_R, ok_L, ok_K, ok_GI, ok_GL, ok_PI, ok_PL, ok_AI, ok_AL, ok_SI, ok_SL, ok_Pr, ok_CI, cmp_lt, cmp_le, cmp_gt, cmp_ge, cmp_eq, nar0, nar1, Sum.elim_inl, Sum.elim_inr]
  refine ok_mono (may_ok s 1 h.1) fun v s0 ⟨h0, hx, hkl, hv, hok⟩ => ⟨fun c => Or.inl ⟨by trivial, h.gcx h0 hx hkl, hx, hkl⟩, fun c => ?_⟩
  have g0 := h.gcx h0 hx hkl
  have nm0 := g0.2.1
  obtain ⟨hg, he, hm, hco⟩ := hok c
  have el : f_limit s0 = f_limit s := hg.1 32 0 (by decide) (by decide) (by decide) (by decide) (by decide) (by decide) (by decide) (by decide) (by decide)
  refine ok_mono (free_ok s0 g0.2.2.2.2 (hco (by decide))) fun t s0' ⟨es, ht, hp, hlo⟩ => ?_
  rw [es]
  refine ok_mono (object_ok s0 7 ⟨by decide, by decide⟩ h0.1.2.2.2.2.2.2 h0.1.2.2.1 (Int32.lt_of_lt_of_le he (by rw [el]; exact hl))) fun x s1 hn => ?_
  have hx1 : 0 ≤ x ∧ x < 4100 := ⟨hn.1.1, Int32.lt_trans (Int32.lt_of_lt_of_le hn.1.2.1 hn.1.2.2) (by decide)⟩
  refine ⟨ht, hx1, ?_⟩
  have hf : Fx s1 (sA s1 62 0 x t) x := by
    refine ⟨fun _ _ => rfl, fun _ _ => rfl, fun a i j _ b c _ _ => ?_, fun a i j b => rfl, fun a z hz => ?_, fun z hz => rfl⟩
    · simp only [gI_sI, gI_sL, gI_sA, gI_sB, gI_sAf, gI_sBf, gL_sI, gL_sL, gL_sA, gL_sB, gL_sAf, gL_sBf, gA_sI, gA_sL, gA_sA, gA_sB, gA_sAf, gA_sBf, gB_sI, gB_sL, gB_sA, gB_sB, gB_sAf, gB_sBf, Nat.reduceEqDiff, Nat.reduceMul, Nat.reduceAdd, false_and, true_and, and_true, and_false, if_true, if_false, b]
    · simp only [gI_sI, gI_sL, gI_sA, gI_sB, gI_sAf, gI_sBf, gL_sI, gL_sL, gL_sA, gL_sB, gL_sAf, gL_sBf, gA_sI, gA_sL, gA_sA, gA_sB, gA_sAf, gA_sBf, gB_sI, gB_sL, gB_sA, gB_sB, gB_sAf, gB_sBf, Nat.reduceEqDiff, Nat.reduceMul, Nat.reduceAdd, false_and, true_and, and_true, and_false, if_true, if_false, hz]
  have hM := hn.mk2 hf h0.1.1.2.1.2
  have hS2 := h0.1.2.1.mk2 hM (by decide) (hn.str hf).1 (hn.str hf).2.1 (hn.str hf).2.2
  have eI : ∀ f, f ≠ 33 → f ≠ 34 → f ≠ 40 → f ≠ 42 → f ≠ 54 → gI (sA s1 62 0 x t) f 0 = gI s0 f 0 + 0 := fun f a b c d e => ((hf.1 f 0).trans (hn.2.2.2.2.2.1 f 0 a b c d e)).trans (Int32.add_zero _).symm
  have hN2 : Nm (sA s1 62 0 x t) := nm0.mk2 hM (fun e => absurd e (by decide)) hm 0 0 ⟨by decide, by decide⟩ ⟨by decide, by decide⟩ h0.1.1.2.1.1 h0.1.2.1.1.1 (eI 41 (by decide) (by decide) (by decide) (by decide) (by decide)) (eI 43 (by decide) (by decide) (by decide) (by decide) (by decide)) (eI 38 (by decide) (by decide) (by decide) (by decide) (by decide)) (eI 44 (by decide) (by decide) (by decide) (by decide) (by decide)) (by rw [Int32.add_zero]; exact nm0.1.2.2) (by rw [Int32.add_zero]; exact nm0.2.1.2.2)
  have e39 : gI s1 39 0 = gI s0 39 0 := hn.2.2.2.2.2.1 39 0 (by decide) (by decide) (by decide) (by decide) (by decide)
  refine Or.inr ⟨s0, sA s1 62 0 x t, t, g0, hg, hkl, hM, hN2, hS2, ht, hp, ?_, ⟨fun f i q => ?_, fun _ _ => rfl, fun a i j q => ?_, fun _ _ _ _ => rfl, ?_⟩, ?_, ?_, ?_, ?_, ?_, ?_, hlo⟩
  · simp only [a_first, gI_sI, gI_sL, gI_sA, gI_sB, gI_sAf, gI_sBf, gL_sI, gL_sL, gL_sA, gL_sB, gL_sAf, gL_sBf, gA_sI, gA_sL, gA_sA, gA_sB, gA_sAf, gA_sBf, gB_sI, gB_sL, gB_sA, gB_sB, gB_sAf, gB_sBf, Nat.reduceEqDiff, Nat.reduceMul, Nat.reduceAdd, false_and, true_and, and_true, and_false, if_true, if_false]
  · have n39 : f ≠ 39 := q.elim (fun w => w.1) (fun w => w.1)
    have no : ∀ g, g = 3584 ∨ g = 3585 ∨ g = 3586 ∨ g = 3587 ∨ g = 3588 ∨ g = 3589 ∨ g = 3202 ∨ g = 3590 → ¬ (f = g ∧ i = t) := fun g hg z => by
      rcases q with q | q
      · obtain ⟨q0, q1, q2, q3, q4, q5, q6, q7, q8⟩ := q
        rcases hg with e | e | e | e | e | e | e | e <;> subst e
        · exact q1 z.1
        · exact q2 z.1
        · exact q3 z.1
        · exact q4 z.1
        · exact q5 z.1
        · exact q6 z.1
        · exact q7 z.1
        · exact q8 z.1
      · exact q.2 z.2
    rw [gI_sI, if_neg (fun z => n39 z.1), gI_sA, gI_sI, if_neg (no 3202 (by decide)), gI_sI, if_neg (no 3590 (by decide)), gI_sI, if_neg (no 3589 (by decide)), gI_sI, if_neg (no 3588 (by decide)), gI_sI, if_neg (no 3587 (by decide)), gI_sI, if_neg (no 3586 (by decide)), gI_sI, if_neg (no 3585 (by decide)), gI_sI, if_neg (no 3584 (by decide)), gI_sA]
  · simp only [gA_sI, gA_sA]
  · simp only [gI_sI, gI_sL, gI_sA, gI_sB, gI_sAf, gI_sBf, gL_sI, gL_sL, gL_sA, gL_sB, gL_sAf, gL_sBf, gA_sI, gA_sL, gA_sA, gA_sB, gA_sAf, gA_sBf, gB_sI, gB_sL, gB_sA, gB_sB, gB_sAf, gB_sBf, Nat.reduceEqDiff, Nat.reduceMul, Nat.reduceAdd, false_and, true_and, and_true, and_false, if_true, if_false]
  · simp only [t_place, gI_sI, gI_sL, gI_sA, gI_sB, gI_sAf, gI_sBf, gL_sI, gL_sL, gL_sA, gL_sB, gL_sAf, gL_sBf, gA_sI, gA_sL, gA_sA, gA_sB, gA_sAf, gA_sBf, gB_sI, gB_sL, gB_sA, gB_sB, gB_sAf, gB_sBf, Nat.reduceEqDiff, Nat.reduceMul, Nat.reduceAdd, false_and, true_and, and_true, and_false, if_true, if_false]
  · simp only [t_state, gI_sI, gI_sL, gI_sA, gI_sB, gI_sAf, gI_sBf, gL_sI, gL_sL, gL_sA, gL_sB, gL_sAf, gL_sBf, gA_sI, gA_sL, gA_sA, gA_sB, gA_sAf, gA_sBf, gB_sI, gB_sL, gB_sA, gB_sB, gB_sAf, gB_sBf, Nat.reduceEqDiff, Nat.reduceMul, Nat.reduceAdd, false_and, true_and, and_true, and_false, if_true, if_false]
  · simp only [t_frames, gI_sI, gI_sL, gI_sA, gI_sB, gI_sAf, gI_sBf, gL_sI, gL_sL, gL_sA, gL_sB, gL_sAf, gL_sBf, gA_sI, gA_sL, gA_sA, gA_sB, gA_sAf, gA_sBf, gB_sI, gB_sL, gB_sA, gB_sB, gB_sAf, gB_sBf, Nat.reduceEqDiff, Nat.reduceMul, Nat.reduceAdd, false_and, true_and, and_true, and_false, if_true, if_false]
  · simp only [t_openCount, gI_sI, gI_sL, gI_sA, gI_sB, gI_sAf, gI_sBf, gL_sI, gL_sL, gL_sA, gL_sB, gL_sAf, gL_sBf, gA_sI, gA_sL, gA_sA, gA_sB, gA_sAf, gA_sBf, gB_sI, gB_sL, gB_sA, gB_sB, gB_sAf, gB_sBf, Nat.reduceEqDiff, Nat.reduceMul, Nat.reduceAdd, false_and, true_and, and_true, and_false, if_true, if_false]
  · simp only [v_start_n, gI_sI, gI_sL, gI_sA, gI_sB, gI_sAf, gI_sBf, gL_sI, gL_sL, gL_sA, gL_sB, gL_sAf, gL_sBf, gA_sI, gA_sL, gA_sA, gA_sB, gA_sAf, gA_sBf, gB_sI, gB_sL, gB_sA, gB_sB, gB_sAf, gB_sBf, Nat.reduceEqDiff, Nat.reduceMul, Nat.reduceAdd, false_and, true_and, and_true, and_false, if_true, if_false]
  · simp only [f_coroutines, gI_sI, gI_sL, gI_sA, gI_sB, gI_sAf, gI_sBf, gL_sI, gL_sL, gL_sA, gL_sB, gL_sAf, gL_sBf, gA_sI, gA_sL, gA_sA, gA_sB, gA_sAf, gA_sBf, gB_sI, gB_sL, gB_sA, gB_sB, gB_sAf, gB_sBf, Nat.reduceEqDiff, Nat.reduceMul, Nat.reduceAdd, false_and, true_and, and_true, and_false, if_true, if_false]
    rw [e39]
theorem thread__er (s : S1) : ht M_Mo_thread_ s (fun v s' => ¬ 0 ≤ v → Er s') := by
  unfold M_Mo_thread_
  rw [ht_B]
  refine ht_mono (may_er s 1) fun v s1 w => ?_
  rw [ht_C]
  refine ⟨fun c => ?_, fun _ => ?_⟩
  · rw [ht_R]
    exact fun _ => w c
  · rw [ht_B]
    refine ht_any fun e s2 => ?_
    rw [ht_B]
    refine ht_any fun x s3 => ?_
    rw [ht_B]
    refine ht_any fun _ s4 => ?_
    rw [ht_B]
    refine ht_any fun _ s5 => ?_
    rw [ht_B, ht_SI]
    intro hx
    rw [ht_B, ht_GI, ht_B, ht_PI, ht_R]
    exact fun z => absurd hx.1 z
