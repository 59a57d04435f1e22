/-! The beginning: an empty heap; while no collection may come, rooms stay. -/
def Cl0 (s : S1) : Prop := Rm s ∧ (f_made s = 0 ∧ f_existing s = 0 ∧ f_rooms s = 0 ∧ f_textMade s = 0 ∧ f_coroutines s = 0 ∧ f_used s = 0 ∧ f_entryTop s = 0 ∧ f_freed s = 0) ∧ (∀ h, 0 ≤ h → h < 1024 → a_heads s h = 0) ∧ (∀ t, 0 ≤ t → t < 33 → t_place s t = -1) ∧ (v_args_n s = 0 ∧ v_results_n s = 0 ∧ v_ended_n s = 0 ∧ v_hand_n s = 0) ∧ (f_errorKind s = 0 ∧ f_calledKind s = 0 ∧ f_todo s = 0 ∧ f_current s = 0 ∧ t_resumer s 0 = -1 ∧ f_noCollection s = 1) ∧ ((0 ≤ f_roomAll s ∧ f_roomAll s ≤ 300000) ∧ (0 ≤ f_textAll s ∧ f_textAll s ≤ 400000) ∧ (0 ≤ f_madeAll s ∧ f_madeAll s ≤ 60000) ∧ f_limit s ≤ 4000)
theorem cl_gg {s : S1} (h : Cl0 s) : GG s := by
  obtain ⟨h1, ⟨m1, m2, m3, m4, m5, m6, m7, m8⟩, h3, h4, ⟨n1, n2, n3, n4⟩, ⟨k1, k2, k3, k4, k5, k6⟩, b1, b2, b3, b4⟩ := h
  have no : ∀ x : Int32, 0 ≤ x → x < f_used s → False := fun x a b => by
    rw [m6] at b
    exact absurd (Int32.lt_of_le_of_lt a b) Int32.lt_irrefl
  have nl : ∀ {m x k}, Lv m s x k → False := fun w => no _ w.1 w.2.1
  have ns : ∀ {x h}, Sg s x h → False := fun w => no _ w.1 w.2.1
  have np : ∀ t, 0 ≤ t → t < 33 → 0 ≤ t_place s t → False := fun t a b c => by
    rw [h4 t a b] at c
    exact absurd c (by decide)
  refine ⟨⟨⟨⟨h1, ?_, fun x a b => (no x a b).elim⟩, ⟨?_, fun x a b => (no x a b).elim, fun h a b => ?_, fun x h w => (ns w).elim, fun x y h w => (ns w).elim, fun x y h h' w => (ns w).elim⟩, ⟨?_, fun j a b => ?_, fun i j a b c => ?_, ?_⟩, fun t a b c => (np t a b c).elim, fun x w => (nl w).elim, fun t a b c => (np t a b c).elim, ?_⟩, fun z => ?_⟩, ⟨?_, ?_, ?_, b4, fun x a b => (no x a b).elim⟩, ⟨fun x y a n b m w => (no x w.1.1 w.1.2).elim, fun x a b => (no x a b).elim⟩, ⟨?_, ?_, ?_, ?_, fun i a b => ?_, fun i a b => ?_, fun i a b => ?_, fun i a b => ?_, Or.inl ?_, Or.inl ?_⟩, ?_⟩
  · rw [m7]
    exact ⟨by decide, by decide⟩
  · rw [m4]
    exact ⟨by decide, by decide⟩
  · rw [h3 h a b]
    exact ⟨by decide, fun z => absurd rfl z, fun x w => (ns w).elim⟩
  · rw [m8]
    decide
  · rw [m8] at b
    exact absurd (Int32.lt_of_le_of_lt a b) Int32.lt_irrefl
  · rw [m8] at c
    exact absurd (Int32.lt_of_le_of_lt a (Int32.lt_trans b c)) Int32.lt_irrefl
  · rw [m2, m8, m6]
    decide
  · rw [m6]
    exact ⟨by decide, by decide⟩
  · rw [k6] at z
    exact absurd z (by decide)
  · rw [m7]
    exact ⟨b1.1, b1⟩
  · rw [m4]
    exact ⟨b2.1, b2⟩
  · rw [m1]
    exact ⟨by decide, b3.1, b3.2⟩
  · rw [n4]
    exact ⟨by decide, by decide⟩
  · rw [n1]
    exact ⟨by decide, by decide⟩
  · rw [n2]
    exact ⟨by decide, by decide⟩
  · rw [n3]
    exact ⟨by decide, by decide⟩
  · have b' : i < 0 + v_hand_n s := b
    rw [n4] at b'
    exact absurd (Int32.lt_of_le_of_lt a b') (by decide)
  · have b' : i < v_args_n s := b
    rw [n1] at b'
    exact absurd (Int32.lt_of_le_of_lt a b') (by decide)
  · have b' : i < v_results_n s := b
    rw [n2] at b'
    exact absurd (Int32.lt_of_le_of_lt a b') (by decide)
  · have b' : i < v_ended_n s := b
    rw [n3] at b'
    exact absurd (Int32.lt_of_le_of_lt a b') (by decide)
  · rw [k1]
    exact ⟨by decide, by decide⟩
  · rw [k2]
    exact ⟨by decide, by decide⟩
  · have e : tcn s = 0 := by
      unfold tcn
      rw [List.countP_eq_zero]
      intro n hn w
      have q := small_of (List.mem_range.mp hn)
      exact np _ q.1 q.2 (of_decide_eq_true w)
    unfold Tc
    rw [e, m5]
    rfl
/-- a string is fixed -/
theorem GG.fix {s : S1} {x v : Int32} (h : GG s) (hz : f_noCollection s ≠ 0) : GG (sA s 60 0 x v) := by
  obtain ⟨⟨⟨⟨v1, v2, v3⟩, h2, h3, h4, h5, h6, h7⟩, -⟩, hn, he, hr, htc⟩ := h
  have lw : ∀ m y k, Lv m (sA s 60 0 x v) y k ↔ Lv m s y k := fun m y k => by
    unfold Lv
    simp only [f_used, a_sort, a_marked, gI_sI, gI_sL, gI_sA, gI_sB, gI_sAf, gI_sBf, gL_sI, gL_sL, gL_sA, gL_sB, gL_sAf, gL_sBf, gA_sI, gA_sL, gA_sA, gA_sB, gA_sAf, gA_sBf, gB_sI, gB_sL, gB_sA, gB_sB, gB_sAf, gB_sBf, Nat.reduceEqDiff, Nat.reduceMul, Nat.reduceAdd, false_and, true_and, and_true, and_false, if_true, if_false]
  have lv : ∀ m k w, Vl m (sA s 60 0 x v) k w ↔ Vl m s k w := fun m k w => by
    unfold Vl
    simp only [lw]
  have ll : ∀ m k w, Wl m (sA s 60 0 x v) k w ↔ Wl m s k w := fun m k w => by
    unfold Wl
    simp only [lw, lv]
  refine ⟨⟨⟨⟨v1, v2, fun y a b => ?_⟩, h2.sq ⟨fun a j ha => by rcases ha with w | w | w | w | w | w | w <;> rw [w] <;> simp only [gI_sI, gI_sL, gI_sA, gI_sB, gI_sAf, gI_sBf, gL_sI, gL_sL, gL_sA, gL_sB, gL_sAf, gL_sBf, gA_sI, gA_sL, gA_sA, gA_sB, gA_sAf, gA_sBf, gB_sI, gB_sL, gB_sA, gB_sB, gB_sAf, gB_sBf, Nat.reduceEqDiff, Nat.reduceMul, Nat.reduceAdd, false_and, true_and, and_true, and_false, if_true, if_false], rfl, rfl⟩, ?_, ?_, ?_, ?_, h7⟩, fun z => absurd z hz⟩, ?_, ?_, ?_, (PT.same (fun _ => rfl) rfl).2 htc⟩
  · have q := v3 y a b
    unfold Sh PcV Ts FrS TbV FnV ThV FrV VrV at *
    simp only [lw, lv]
    simp only [a_sort, a_tag, a_first, a_second, a_third, a_chain, a_free, a_text, a_heads, a_ek, a_ev, a_vk, a_vv, a_follow, a_bucket, a_registers, f_used, v_variable_k, v_variable_v, v_stack_k, v_stack_v, v_row_k, v_row_v, v_start_n, v_start_k, v_start_v, t_place, t_frames, t_openCount, t_open, t_kind, t_function, t_base, t_extra, t_rowCount, p_ek, p_vk, p_ev, p_vv, p_follow, f_entryTop, gI_sI, gI_sL, gI_sA, gI_sB, gI_sAf, gI_sBf, gL_sI, gL_sL, gL_sA, gL_sB, gL_sAf, gL_sBf, gA_sI, gA_sL, gA_sA, gA_sB, gA_sAf, gA_sBf, gB_sI, gB_sL, gB_sA, gB_sB, gB_sAf, gB_sBf, Nat.reduceEqDiff, Nat.reduceMul, Nat.reduceAdd, false_and, true_and, and_true, and_false, if_true, if_false] at *
    exact q
  · unfold Frl at *
    simp only [f_freed, f_existing, f_used, a_free, a_sort, gI_sI, gI_sL, gI_sA, gI_sB, gI_sAf, gI_sBf, gL_sI, gL_sL, gL_sA, gL_sB, gL_sAf, gL_sBf, gA_sI, gA_sL, gA_sA, gA_sB, gA_sAf, gA_sBf, gB_sI, gB_sL, gB_sA, gB_sB, gB_sAf, gB_sBf, Nat.reduceEqDiff, Nat.reduceMul, Nat.reduceAdd, false_and, true_and, and_true, and_false, if_true, if_false] at *
    exact h3
  · unfold Ov at *
    simp only [lw]
    simp only [t_place, t_openCount, t_open, a_first, gI_sI, gI_sL, gI_sA, gI_sB, gI_sAf, gI_sBf, gL_sI, gL_sL, gL_sA, gL_sB, gL_sAf, gL_sBf, gA_sI, gA_sL, gA_sA, gA_sB, gA_sAf, gA_sBf, gB_sI, gB_sL, gB_sA, gB_sB, gB_sAf, gB_sBf, Nat.reduceEqDiff, Nat.reduceMul, Nat.reduceAdd, false_and, true_and, and_true, and_false, if_true, if_false] at *
    exact h4
  · unfold Cv at *
    simp only [lw]
    simp only [t_place, t_openCount, t_open, a_first, gI_sI, gI_sL, gI_sA, gI_sB, gI_sAf, gI_sBf, gL_sI, gL_sL, gL_sA, gL_sB, gL_sAf, gL_sBf, gA_sI, gA_sL, gA_sA, gA_sB, gA_sAf, gA_sBf, gB_sI, gB_sL, gB_sA, gB_sB, gB_sAf, gB_sBf, Nat.reduceEqDiff, Nat.reduceMul, Nat.reduceAdd, false_and, true_and, and_true, and_false, if_true, if_false] at *
    exact h5
  · unfold q_Tp at *
    simp only [lw]
    simp only [t_place, a_first, gI_sI, gI_sL, gI_sA, gI_sB, gI_sAf, gI_sBf, gL_sI, gL_sL, gL_sA, gL_sB, gL_sAf, gL_sBf, gA_sI, gA_sL, gA_sA, gA_sB, gA_sAf, gA_sBf, gB_sI, gB_sL, gB_sA, gB_sB, gB_sAf, gB_sBf, Nat.reduceEqDiff, Nat.reduceMul, Nat.reduceAdd, false_and, true_and, and_true, and_false, if_true, if_false] at *
    exact h6
  · unfold Nm at *
    simp only [f_entryTop, f_roomAll, f_textMade, f_textAll, f_made, f_madeAll, f_limit, f_used, a_sort, a_tag, a_second, gI_sI, gI_sL, gI_sA, gI_sB, gI_sAf, gI_sBf, gL_sI, gL_sL, gL_sA, gL_sB, gL_sAf, gL_sBf, gA_sI, gA_sL, gA_sA, gA_sB, gA_sAf, gA_sBf, gB_sI, gB_sL, gB_sA, gB_sB, gB_sAf, gB_sBf, Nat.reduceEqDiff, Nat.reduceMul, Nat.reduceAdd, false_and, true_and, and_true, and_false, if_true, if_false] at *
    exact hn
  · unfold Ex q_Dj q_Rg Tch Fu at *
    simp only [f_used, f_protos, a_sort, a_first, a_second, a_third, a_bucket, a_follow, a_upvalues, gI_sI, gI_sL, gI_sA, gI_sB, gI_sAf, gI_sBf, gL_sI, gL_sL, gL_sA, gL_sB, gL_sAf, gL_sBf, gA_sI, gA_sL, gA_sA, gA_sB, gA_sAf, gA_sBf, gB_sI, gB_sL, gB_sA, gB_sB, gB_sAf, gB_sBf, Nat.reduceEqDiff, Nat.reduceMul, Nat.reduceAdd, false_and, true_and, and_true, and_false, if_true, if_false] at *
    exact he
  · unfold Rws RvV RwV at *
    simp only [lv, ll]
    simp only [v_hand_n, v_args_n, v_results_n, v_ended_n, f_errorKind, f_errorValue, f_calledKind, f_called, Nat.reduceMul, Nat.reduceAdd, gI_sI, gI_sL, gI_sA, gI_sB, gI_sAf, gI_sBf, gL_sI, gL_sL, gL_sA, gL_sB, gL_sAf, gL_sBf, gA_sI, gA_sL, gA_sA, gA_sB, gA_sAf, gA_sBf, gB_sI, gB_sL, gB_sA, gB_sB, gB_sAf, gB_sBf, Nat.reduceEqDiff, Nat.reduceMul, Nat.reduceAdd, false_and, true_and, and_true, and_false, if_true, if_false] at *
    exact hr
/-- while no collection may come: the rooms stay as they are -/
def Kz {α : Type} (f : M α) : Prop := ∀ s, ht f s (fun _ s' => gI s 92 0 ≠ 0 → gI s' 92 0 = gI s 92 0 ∧ gI s' 36 0 = gI s 36 0)
theorem kz_R {α : Type} (a : α) : Kz (oR a) := fun s => (ht_R a s _).mpr fun _ => ⟨rfl, rfl⟩
theorem kz_B {α β : Type} {f : M α} {g : α → M β} (hf : Kz f) (hg : ∀ a, Kz (g a)) : Kz (oB f g) := fun s => (ht_B f g s _).mpr (ht_mono (hf s) fun a s1 e => ht_mono (hg a s1) fun _ _ e2 z => ⟨(e2 (by rw [(e z).1]; exact z)).1.trans (e z).1, (e2 (by rw [(e z).1]; exact z)).2.trans (e z).2⟩)
theorem kz_C {α : Type} {c : Prop} [Decidable c] {f g : M α} (hf : Kz f) (hg : Kz g) : Kz (oC c f g) := fun s => (ht_C c f g s _).mpr ⟨fun _ => hf s, fun _ => hg s⟩
theorem kz_L {α β : Type} {x : α} {g : α → M β} (h : Kz (g x)) : Kz (oL x g) := fun s => (ht_L x g s _).mpr (h s)
theorem kz_K (c : Prop) [Decidable c] : Kz (oK c) := fun s => (ht_K c s _).mpr fun _ _ => ⟨rfl, rfl⟩
theorem kz_GI (f : Nat) (i : Int32) : Kz (oGI f i) := fun s => (ht_GI f i s _).mpr fun _ => ⟨rfl, rfl⟩
theorem kz_GL (f : Nat) (i : Int32) : Kz (oGL f i) := fun s => (ht_GL f i s _).mpr fun _ => ⟨rfl, rfl⟩
theorem kz_PI {f : Nat} {i x : Int32} (h : f ≠ 92 ∧ f ≠ 36) : Kz (oPI f i x) := fun s => (ht_PI f i x s _).mpr fun _ => ⟨by
  rw [gI_sI, if_neg]
  rintro ⟨e, -⟩
  exact h.1 e.symm, by
  rw [gI_sI, if_neg]
  rintro ⟨e, -⟩
  exact h.2 e.symm⟩
theorem kz_PL (f : Nat) (i : Int32) (x : Int64) : Kz (oPL f i x) := fun s => (ht_PL f i x s _).mpr fun _ => ⟨rfl, rfl⟩
theorem kz_AI (a : Nat) (n i j : Int32) : Kz (oAI a n i j) := fun s => (ht_AI a n i j s _).mpr fun _ _ => ⟨rfl, rfl⟩
theorem kz_AL (a : Nat) (n i j : Int32) : Kz (oAL a n i j) := fun s => (ht_ifs rfl _).mpr fun _ _ => ⟨rfl, rfl⟩
theorem kz_SI (a : Nat) (n i j x : Int32) : Kz (oSI a n i j x) := fun s => (ht_SI a n i j x s _).mpr fun _ _ => ⟨rfl, rfl⟩
theorem kz_SL (a : Nat) (n i j : Int32) (x : Int64) : Kz (oSL a n i j x) := fun s => (ht_SL a n i j x s _).mpr fun _ _ => ⟨rfl, rfl⟩
theorem kz_CI (ra : Nat) (ia na : Int32) (rb : Nat) (ib nb sp dp n : Int32) : Kz (oCI ra ia na rb ib nb sp dp n) := fun s => (ht_ifs (f := oCI ra ia na rb ib nb sp dp n) rfl _).mpr fun _ _ => ⟨rfl, rfl⟩
theorem kz_Pr (r : Nat) (i : Int32) : Kz (oPr r i) := fun s => (ht_Pr r i s _).mpr fun _ _ => ⟨rfl, rfl⟩
theorem kz_W {σ ρ : Type} {body : σ → M (σ ⊕ ρ)} (h : ∀ x, Kz (body x)) (x : σ) : Kz (oW body x) := fun s => ht_W (Q := fun _ s' => gI s 92 0 ≠ 0 → gI s' 92 0 = gI s 92 0 ∧ gI s' 36 0 = gI s 36 0) (fun _ s' => gI s 92 0 ≠ 0 → gI s' 92 0 = gI s 92 0 ∧ gI s' 36 0 = gI s 36 0) (fun y s1 e => ht_mono (h y s1) fun z s2 e2 => by
  have q : gI s 92 0 ≠ 0 → gI s2 92 0 = gI s 92 0 ∧ gI s2 36 0 = gI s 36 0 := fun w => ⟨(e2 (by rw [(e w).1]; exact w)).1.trans (e w).1, (e2 (by rw [(e w).1]; exact w)).2.trans (e w).2⟩
  rcases z with z | z
  · exact q
  · exact q) x s (fun _ => ⟨rfl, rfl⟩)
theorem kz_E {α β γ : Type} {f : α → M γ} {g : β → M γ} (hf : ∀ a, Kz (f a)) (hg : ∀ c, Kz (g c)) (y : α ⊕ β) : Kz (Sum.elim f g y) := by
  rcases y with y | y
  · exact hf y
  · exact hg y
theorem kz_Va_set (l0r : Nat) (l0 : Int32) (l1 : Int32) (l2 : Int32) (l3 : Int64) : Kz (M_Va_set l0r l0 l1 l2 l3) := by
  unfold M_Va_set
  repeat' (first | with_reducible (first | apply kz_B | apply kz_C | exact kz_R _ | exact kz_GI _ _ | exact kz_GL _ _ | exact kz_PL _ _ _ | exact kz_AI _ _ _ _ | exact kz_AL _ _ _ _ | exact kz_SI _ _ _ _ _ | exact kz_SL _ _ _ _ _ | exact kz_K _ | exact kz_Pr _ _ | exact kz_CI _ _ _ _ _ _ _ _ _ | apply kz_L | apply kz_W | (refine kz_PI ?_) | apply kz_E | intro _) | omega)
theorem kz_Mo_raise_j23 (k0 : Int32) : Kz (M_Mo_raise_j23 k0) := by
  unfold M_Mo_raise_j23
  repeat' (first | with_reducible (first | apply kz_B | apply kz_C | exact kz_R _ | exact kz_GI _ _ | exact kz_GL _ _ | exact kz_PL _ _ _ | exact kz_AI _ _ _ _ | exact kz_AL _ _ _ _ | exact kz_SI _ _ _ _ _ | exact kz_SL _ _ _ _ _ | exact kz_K _ | exact kz_Pr _ _ | exact kz_CI _ _ _ _ _ _ _ _ _ | apply kz_L | apply kz_W | (refine kz_PI ?_) | apply kz_E | intro _) | omega)
theorem kz_Mo_raise (l1 : Int32) : Kz (M_Mo_raise l1) := by
  unfold M_Mo_raise
  repeat' (first | with_reducible (first | apply kz_B | apply kz_C | exact kz_Mo_raise_j23 _ | exact kz_R _ | exact kz_GI _ _ | exact kz_GL _ _ | exact kz_PL _ _ _ | exact kz_AI _ _ _ _ | exact kz_AL _ _ _ _ | exact kz_SI _ _ _ _ _ | exact kz_SL _ _ _ _ _ | exact kz_K _ | exact kz_Pr _ _ | exact kz_CI _ _ _ _ _ _ _ _ _ | apply kz_L | apply kz_W | (refine kz_PI ?_) | apply kz_E | intro _) | omega)
theorem kz_Mo_hash_L6 (x) : Kz (M_Mo_hash_L6 x) := by
  unfold M_Mo_hash_L6
  repeat' (first | with_reducible (first | apply kz_B | apply kz_C | exact kz_R _ | exact kz_GI _ _ | exact kz_GL _ _ | exact kz_PL _ _ _ | exact kz_AI _ _ _ _ | exact kz_AL _ _ _ _ | exact kz_SI _ _ _ _ _ | exact kz_SL _ _ _ _ _ | exact kz_K _ | exact kz_Pr _ _ | exact kz_CI _ _ _ _ _ _ _ _ _ | apply kz_L | apply kz_W | (refine kz_PI ?_) | apply kz_E | intro _) | omega)
theorem kz_Mo_hash (l1r : Nat) (l1 : Int32) (l2 : Int32) (l3 : Int32) : Kz (M_Mo_hash l1r l1 l2 l3) := by
  unfold M_Mo_hash
  repeat' (first | with_reducible (first | apply kz_B | apply kz_C | exact kz_Mo_hash_L6 _ | exact kz_R _ | exact kz_GI _ _ | exact kz_GL _ _ | exact kz_PL _ _ _ | exact kz_AI _ _ _ _ | exact kz_AL _ _ _ _ | exact kz_SI _ _ _ _ _ | exact kz_SL _ _ _ _ _ | exact kz_K _ | exact kz_Pr _ _ | exact kz_CI _ _ _ _ _ _ _ _ _ | apply kz_L | apply kz_W | (refine kz_PI ?_) | apply kz_E | intro _) | omega)
theorem kz_Mo_object_j37 (l1 : Int32) (k0 : Int32) : Kz (M_Mo_object_j37 l1 k0) := by
  unfold M_Mo_object_j37
  repeat' (first | with_reducible (first | apply kz_B | apply kz_C | exact kz_R _ | exact kz_GI _ _ | exact kz_GL _ _ | exact kz_PL _ _ _ | exact kz_AI _ _ _ _ | exact kz_AL _ _ _ _ | exact kz_SI _ _ _ _ _ | exact kz_SL _ _ _ _ _ | exact kz_K _ | exact kz_Pr _ _ | exact kz_CI _ _ _ _ _ _ _ _ _ | apply kz_L | apply kz_W | (refine kz_PI ?_) | apply kz_E | intro _) | omega)
theorem kz_Mo_object (l1 : Int32) : Kz (M_Mo_object l1) := by
  unfold M_Mo_object
  repeat' (first | with_reducible (first | apply kz_B | apply kz_C | exact kz_Mo_object_j37 _ _ | exact kz_R _ | exact kz_GI _ _ | exact kz_GL _ _ | exact kz_PL _ _ _ | exact kz_AI _ _ _ _ | exact kz_AL _ _ _ _ | exact kz_SI _ _ _ _ _ | exact kz_SL _ _ _ _ _ | exact kz_K _ | exact kz_Pr _ _ | exact kz_CI _ _ _ _ _ _ _ _ _ | apply kz_L | apply kz_W | (refine kz_PI ?_) | apply kz_E | intro _) | omega)
theorem kz_Mo_may_j82  : Kz (M_Mo_may_j82) := by
  unfold M_Mo_may_j82
  repeat' (first | with_reducible (first | apply kz_B | apply kz_C | exact kz_Mo_raise _ | exact kz_R _ | exact kz_GI _ _ | exact kz_GL _ _ | exact kz_PL _ _ _ | exact kz_AI _ _ _ _ | exact kz_AL _ _ _ _ | exact kz_SI _ _ _ _ _ | exact kz_SL _ _ _ _ _ | exact kz_K _ | exact kz_Pr _ _ | exact kz_CI _ _ _ _ _ _ _ _ _ | apply kz_L | apply kz_W | (refine kz_PI ?_) | apply kz_E | intro _) | omega)
theorem kz_Mo_may_j56 (l1 : Int32) : Kz (M_Mo_may_j56 l1) := by
  unfold M_Mo_may_j56
  repeat' (first | with_reducible (first | apply kz_B | apply kz_C | exact kz_Mo_may_j82 | exact kz_R _ | exact kz_GI _ _ | exact kz_GL _ _ | exact kz_PL _ _ _ | exact kz_AI _ _ _ _ | exact kz_AL _ _ _ _ | exact kz_SI _ _ _ _ _ | exact kz_SL _ _ _ _ _ | exact kz_K _ | exact kz_Pr _ _ | exact kz_CI _ _ _ _ _ _ _ _ _ | apply kz_L | apply kz_W | (refine kz_PI ?_) | apply kz_E | intro _) | omega)
theorem kz_Mo_may_j45 (l1 : Int32) : Kz (M_Mo_may_j45 l1) := by
  unfold M_Mo_may_j45
  intro s
  rw [ht_B, ht_GI, ht_C]
  refine ⟨fun c => ?_, fun c => kz_Mo_may_j56 _ s⟩
  exact fun a s2 e z => absurd c z
theorem kz_Mo_may (l1 : Int32) : Kz (M_Mo_may l1) := by
  unfold M_Mo_may
  repeat' (first | with_reducible (first | apply kz_B | apply kz_C | exact kz_Mo_raise _ | exact kz_Mo_may_j45 _ | exact kz_R _ | exact kz_GI _ _ | exact kz_GL _ _ | exact kz_PL _ _ _ | exact kz_AI _ _ _ _ | exact kz_AL _ _ _ _ | exact kz_SI _ _ _ _ _ | exact kz_SL _ _ _ _ _ | exact kz_K _ | exact kz_Pr _ _ | exact kz_CI _ _ _ _ _ _ _ _ _ | apply kz_L | apply kz_W | (refine kz_PI ?_) | apply kz_E | intro _) | omega)
theorem kz_Mo_newVariable  : Kz (M_Mo_newVariable) := by
  unfold M_Mo_newVariable
  repeat' (first | with_reducible (first | apply kz_B | apply kz_C | exact kz_Mo_may _ | exact kz_Mo_object _ | exact kz_Va_set _ _ _ _ _ | exact kz_R _ | exact kz_GI _ _ | exact kz_GL _ _ | exact kz_PL _ _ _ | exact kz_AI _ _ _ _ | exact kz_AL _ _ _ _ | exact kz_SI _ _ _ _ _ | exact kz_SL _ _ _ _ _ | exact kz_K _ | exact kz_Pr _ _ | exact kz_CI _ _ _ _ _ _ _ _ _ | apply kz_L | apply kz_W | (refine kz_PI ?_) | apply kz_E | intro _) | omega)
theorem kz_Mo_table  : Kz (M_Mo_table) := by
  unfold M_Mo_table
  repeat' (first | with_reducible (first | apply kz_B | apply kz_C | exact kz_Mo_may _ | exact kz_Mo_object _ | exact kz_R _ | exact kz_GI _ _ | exact kz_GL _ _ | exact kz_PL _ _ _ | exact kz_AI _ _ _ _ | exact kz_AL _ _ _ _ | exact kz_SI _ _ _ _ _ | exact kz_SL _ _ _ _ _ | exact kz_K _ | exact kz_Pr _ _ | exact kz_CI _ _ _ _ _ _ _ _ _ | apply kz_L | apply kz_W | (refine kz_PI ?_) | apply kz_E | intro _) | omega)
theorem kz_Mo_string_j86 (l1r : Nat) (l1 : Int32) (l2 : Int32) (l3 : Int32) (l4 : Int32) (l5 : Int32) (l7 : Int32) (k0 : Int32) : Kz (M_Mo_string_j86 l1r l1 l2 l3 l4 l5 l7 k0) := by
  unfold M_Mo_string_j86
  repeat' (first | with_reducible (first | apply kz_B | apply kz_C | exact kz_R _ | exact kz_GI _ _ | exact kz_GL _ _ | exact kz_PL _ _ _ | exact kz_AI _ _ _ _ | exact kz_AL _ _ _ _ | exact kz_SI _ _ _ _ _ | exact kz_SL _ _ _ _ _ | exact kz_K _ | exact kz_Pr _ _ | exact kz_CI _ _ _ _ _ _ _ _ _ | apply kz_L | apply kz_W | (refine kz_PI ?_) | apply kz_E | intro _) | omega)
theorem kz_Mo_string_L46 (x) : Kz (M_Mo_string_L46 x) := by
  unfold M_Mo_string_L46
  repeat' (first | with_reducible (first | apply kz_B | apply kz_C | exact kz_Mo_string_j86 _ _ _ _ _ _ _ _ | exact kz_R _ | exact kz_GI _ _ | exact kz_GL _ _ | exact kz_PL _ _ _ | exact kz_AI _ _ _ _ | exact kz_AL _ _ _ _ | exact kz_SI _ _ _ _ _ | exact kz_SL _ _ _ _ _ | exact kz_K _ | exact kz_Pr _ _ | exact kz_CI _ _ _ _ _ _ _ _ _ | apply kz_L | apply kz_W | (refine kz_PI ?_) | apply kz_E | intro _) | omega)
theorem kz_Mo_string_j94 (l1r : Nat) (l1 : Int32) (l2 : Int32) (l3 : Int32) (l4 : Int32) (l5 : Int32) (l6 : Int32) : Kz (M_Mo_string_j94 l1r l1 l2 l3 l4 l5 l6) := by
  unfold M_Mo_string_j94
  repeat' (first | with_reducible (first | apply kz_B | apply kz_C | exact kz_R _ | exact kz_GI _ _ | exact kz_GL _ _ | exact kz_PL _ _ _ | exact kz_AI _ _ _ _ | exact kz_AL _ _ _ _ | exact kz_SI _ _ _ _ _ | exact kz_SL _ _ _ _ _ | exact kz_K _ | exact kz_Pr _ _ | exact kz_CI _ _ _ _ _ _ _ _ _ | apply kz_L | apply kz_W | (refine kz_PI ?_) | apply kz_E | intro _) | omega)
theorem kz_Mo_string_j41 (l1r : Nat) (l1 : Int32) (l2 : Int32) (l3 : Int32) (l4 : Int32) (l5 : Int32) (k0 : Int32) : Kz (M_Mo_string_j41 l1r l1 l2 l3 l4 l5 k0) := by
  unfold M_Mo_string_j41
  repeat' (first | with_reducible (first | apply kz_B | apply kz_C | exact kz_Mo_string_L46 _ | exact kz_Mo_string_j94 _ _ _ _ _ _ _ | exact kz_R _ | exact kz_GI _ _ | exact kz_GL _ _ | exact kz_PL _ _ _ | exact kz_AI _ _ _ _ | exact kz_AL _ _ _ _ | exact kz_SI _ _ _ _ _ | exact kz_SL _ _ _ _ _ | exact kz_K _ | exact kz_Pr _ _ | exact kz_CI _ _ _ _ _ _ _ _ _ | apply kz_L | apply kz_W | (refine kz_PI ?_) | apply kz_E | intro _) | omega)
theorem kz_Mo_string_L20 (x) : Kz (M_Mo_string_L20 x) := by
  unfold M_Mo_string_L20
  repeat' (first | with_reducible (first | apply kz_B | apply kz_C | exact kz_Mo_string_j41 _ _ _ _ _ _ _ | exact kz_R _ | exact kz_GI _ _ | exact kz_GL _ _ | exact kz_PL _ _ _ | exact kz_AI _ _ _ _ | exact kz_AL _ _ _ _ | exact kz_SI _ _ _ _ _ | exact kz_SL _ _ _ _ _ | exact kz_K _ | exact kz_Pr _ _ | exact kz_CI _ _ _ _ _ _ _ _ _ | apply kz_L | apply kz_W | (refine kz_PI ?_) | apply kz_E | intro _) | omega)
theorem kz_Mo_string (l1r : Nat) (l1 : Int32) (l2 : Int32) (l3 : Int32) : Kz (M_Mo_string l1r l1 l2 l3) := by
  unfold M_Mo_string
  repeat' (first | with_reducible (first | apply kz_B | apply kz_C | exact kz_Mo_hash _ _ _ _ | exact kz_Mo_string_L20 _ | exact kz_Mo_may _ | exact kz_Mo_object _ | exact kz_Mo_raise _ | exact kz_R _ | exact kz_GI _ _ | exact kz_GL _ _ | exact kz_PL _ _ _ | exact kz_AI _ _ _ _ | exact kz_AL _ _ _ _ | exact kz_SI _ _ _ _ _ | exact kz_SL _ _ _ _ _ | exact kz_K _ | exact kz_Pr _ _ | exact kz_CI _ _ _ _ _ _ _ _ _ | apply kz_L | apply kz_W | (refine kz_PI ?_) | apply kz_E | intro _) | omega)
