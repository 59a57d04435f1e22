/-! Both machines: the tapes' bytes and the faults go on agreeing. -/
def TpE (s : S1) : Prop := ∀ j : Int32, 0 ≤ j.toInt → j.toInt < (gI s 12800 0).toInt → gA s 108 0 j = gA s 41 0 j
def FlE (s : S1) : Prop := gI s 12943 0 = gI s 3 0 ∧ gI s 12944 0 = gI s 4 0
def Jf (s : S1) (n m e : Nat × Nat) : Prop := Jt s n m e ∧ TpE s ∧ FlE s
theorem jf_e {s : S1} {n m : Nat × Nat} {k : Nat} (h : Jf s n m (k + 1, 5 * k + 5)) : Jf s n m (k, 5 * k) := ⟨jt_e h.1, h.2⟩
theorem jf_S0 {n m e : Nat × Nat} (h1 : 71751 ≤ n.1) (h2 : 2605202 ≤ n.2) (h3 : 6 + e.1 ≤ m.1) (h4 : 1800000 + e.2 ≤ m.2) : Jf S0 n m e := ⟨⟨jz_S0 h1 h2 h3 h4, rfl⟩, fun j j0 j1 => by
  have e : (gI S0 12800 0).toInt = 0 := rfl
  omega, rfl, rfl⟩
/-- what the class leaves in most of its calls -/
def Cfr (s t : S1) : Prop := (∀ f, f = 12800 ∨ f = 12943 ∨ f = 12944 ∨ f = 3 ∨ f = 4 → gI t f 0 = gI s f 0) ∧ (∀ j, gA t 108 0 j = gA s 108 0 j) ∧ ∀ j, gA t 41 0 j = gA s 41 0 j
theorem Cfr.refl (s : S1) : Cfr s s := ⟨fun _ _ => rfl, fun _ => rfl, fun _ => rfl⟩
theorem Zr.cfr {b : Bool} {s t : S1} (h : Zr 111 b s t) : Cfr s t := ⟨fun f q => h.1 f 0 (.inl (by omega)), fun j => h.2.2.1 108 0 j (by omega), fun j => h.2.2.1 41 0 j (by omega)⟩
theorem jfp {α β : Type} {f : M α} {g : M β} {s : S1} {n m e : Nat × Nat} {J : α → β → S1 → S1 → Prop} (h : Jf s n m e) (k : ok f s (fun r t => ∀ t', ouT t t' → ok g t' (fun v w => J r v t' w))) (cf : ∀ r t, f s = some (r, t) → Cfr s t) (w5 : W5k g) (y : Yk g) :
    ok f s (fun r t => ∀ t', ouT t t' → ok g t' (fun v w => J r v t' w ∧ TpE w ∧ FlE w)) := by
  obtain ⟨-, tp, fl⟩ := h
  obtain ⟨r, t, E, q⟩ := ok_out k
  obtain ⟨c1, c2, c3⟩ := cf r t E
  refine ok_in E fun t' ht => ?_
  obtain ⟨v, w, E2, q2⟩ := ok_out (q t' ht)
  have z := w5 t' v w E2
  have yr := y t' v w E2
  refine ok_in E2 ⟨q2, fun j j0 j1 => ?_, ?_, ?_⟩
  · rw [yr.1 12800 0 (by omega), ht.I, c1 12800 (by omega)] at j1
    rw [yr.2.2.1 108 0 j (by omega), z.2 j, ht.A, ht.A, c2, c3]
    exact tp j j0 j1
  · rw [yr.1 12943 0 (by omega), ht.I, c1 12943 (by omega), z.1 3 (.inl rfl), ht.I, c1 3 (by omega)]
    exact fl.1
  · rw [yr.1 12944 0 (by omega), ht.I, c1 12944 (by omega), z.1 4 (.inr rfl), ht.I, c1 4 (by omega)]
    exact fl.2
/-- as the law's walk wants it -/
theorem jfr {α β : Type} {f : M α} {g : M β} {s : S1} {A : α → β → S1 → Prop} {B : α → β → S1 → S1 → Prop} (k : ok f s (fun r t => ∀ t', ouT t t' → ok g t' (fun v w => (A r v w ∧ B r v t' w) ∧ TpE w ∧ FlE w))) : ok f s (fun r t => ∀ t', ouT t t' → ok g t' (fun v w => (A r v w ∧ TpE w ∧ FlE w) ∧ B r v t' w)) := ok_mono k fun _ _ q t' ht => ok_mono (q t' ht) fun _ _ z => ⟨⟨z.1.1, z.2⟩, z.1.2⟩
theorem sstC {α : Type} {f : M α} {s : S1} (k : ok f s (Sst s)) : ∀ r t, f s = some (r, t) → Cfr s t := fun r t E => by
  have : t = s := k.det r t E
  rw [this]
  exact Cfr.refl s
section PR
variable {s : S1} {n m e : Nat × Nat}
theorem jf_kind (h : Jf s n m e) (a : Int32) : ok (X_kind a) s (fun _ t => ∀ t', ouT t t' → ok (M_Mo_kind a) t' (fun _ w => Jf w n m e ∧ gB w 155 0 0 = gB t' 155 0 0)) := jfr (jfp h (jp_kind h.1 a) (sstC (kind_ok h.1.1.1 a)) (w5_Mo_kind a) (yk_Mo_kind a))
theorem jf_value (h : Jf s n m e) (a : Int32) : ok (X_value a) s (fun _ t => ∀ t', ouT t t' → ok (M_Mo_value a) t' (fun _ w => Jf w n m e ∧ gB w 155 0 0 = gB t' 155 0 0)) := jfr (jfp h (jp_value h.1 a) (sstC (value_ok h.1.1.1 a)) (w5_Mo_value a) (yk_Mo_value a))
theorem jf_byteOf (h : Jf s n m e) (a b : Int32) : ok (X_byteOf a b) s (fun _ t => ∀ t', ouT t t' → ok (M_Mo_byteOf_ a b) t' (fun _ w => Jf w n m e ∧ gB w 155 0 0 = gB t' 155 0 0)) := jfr (jfp h (jp_byteOf h.1 a b) (sstC (byteOf_ok h.1.1.1 a b)) (w5_Mo_byteOf_ a b) (yk_Mo_byteOf_ a b))
theorem jf_output (h : Jf s n m e) (a : Int32) : ok (X_output a) s (fun _ t => ∀ t', ouT t t' → ok (M_Mo_output a) t' (fun _ w => Jf w n m e ∧ gB w 155 0 0 = gB t' 155 0 0)) := jfr (jfp h (jp_output h.1 a) (sstC (output_ok h.1.1.1 a)) (w5_Mo_output a) (yk_Mo_output a))
theorem jf_count (h : Jf s n m e) (a : Int32) : ok (M_LM_count a) s (fun _ t => ∀ t', ouT t t' → ok (M_Mo_count a) t' (fun _ w => Jf w n m e ∧ gB w 155 0 0 = gB t' 155 0 0)) := jfr (jfp h (jp_count h.1 a) (sstC (count_ok h.1.1.1 a)) (w5_Mo_count a) (yk_Mo_count a))
theorem z1_collect : Zk 111 true X_collect := by
  unfold X_collect
  exact zk_B (zk_GI _ _) fun _ => zk_C (zk_R _) (zk_B zk_He_clean fun _ => zk_B (zk_AI _ _ _ _) fun _ => zk_R _)
theorem z1_run (n : Nat × Nat) (a : Int32) : Zk 111 false (X_run n a) := by
  unfold X_run
  exact zk_C (zk_R _) (zk_C (zk_B (zk_GI _ _) fun _ => zk_C (zk_R _) (zk_B (zk_LM_run _ _) fun _ => zk_R _)) (zk_R _))
theorem jf_collect (h : Jf s n m e) : ok X_collect s (fun _ t => ∀ t', ouT t t' → ok M_Mo_collect t' (fun _ w => Jf w n m e ∧ gB w 155 0 0 = gB t' 155 0 0)) := jfr (jfp h (jp_collect h.1) (fun r t E => (z1_collect s r t E).cfr) w5_Mo_collect yk_Mo_collect)
theorem jf_run (h : Jf s n m e) (a : Int32) : ok (X_run n a) s (fun r t => ∀ t', ouT t t' → ok (M_Mo_run a) t' (fun _ w => Jf w r.2 m e ∧ gB w 155 0 0 = gB t' 155 0 0)) := jfr (jfp h (jp_run h.1 a) (fun r t E => (z1_run n a s r t E).cfr) (w5_Mo_run a) (yk_Mo_run a))
theorem jf_limit (h : Jf s n m e) (a : Int32) : ok (X_limit a) s (fun r t => ∀ t', ouT t t' → ok (M_Mo_limit a) t' (fun v w => Jf w n m e ∧ gB w 155 0 0 = gB t' 155 0 0 ∧ ((r = .inr v ∧ gI w 2 0 = 0) ∨ (r = .inl 2 ∧ v = 0 ∧ gI w 2 0 = 1)))) := by
  refine jfr (jfp h (jp_limit h.1 a) (fun r t E => ?_) (w5_Mo_limit a) (yk_Mo_limit a))
  obtain ⟨-, I, T2, -⟩ := (jlimC h.1.1.1 a).det r t E
  exact ⟨fun f q => I f 0 (by omega), fun j => by show t.2.2.1 _ _ _ = s.2.2.1 _ _ _; rw [T2], fun j => by show t.2.2.1 _ _ _ = s.2.2.1 _ _ _; rw [T2]⟩
/-! fault: the answers -/
theorem jf_fault (h : Jf s n m e) (a : Int32) : ok (X_fault a) s (fun r t => ∀ t', ouT t t' → ok (M_Mo_fault a) t' (fun v w => Jf w n m e ∧ gB w 155 0 0 = gB t' 155 0 0 ∧ ((r = .inr v ∧ gI w 2 0 = 0) ∨ (r = .inl 2 ∧ v = 0 ∧ gI w 2 0 = 1)))) := by
  have z := jfr (jfp h (jp_fault h.1 a) (sstC (fault_ok h.1.1.1 a)) (w5_Mo_fault a) (yk_Mo_fault a))
  have e0 : (0 : Int32).toInt = 0 := rfl
  have e1 : (1 : Int32).toInt = 1 := rfl
  -- the class
  have c : hu (X_fault a) s (fun r t => t = s ∧ ((a = 0 ∧ r = .inr (gI s 12943 0)) ∨ (a = 1 ∧ r = .inr (gI s 12944 0)) ∨ (¬ a = 0 ∧ ¬ a = 1 ∧ r = .inl 2))) := by
    unfold X_fault M_LM_fault_j17
    simp only [hu_B, hu_C, hu_R, hu_GI]
    refine ⟨fun z => ⟨fun _ => ⟨trivial, .inl ⟨z, trivial⟩⟩, fun n => absurd z n⟩, fun z => ⟨fun y => ⟨fun x => absurd x z, fun _ => ⟨trivial, .inr (.inl ⟨y, trivial⟩)⟩⟩, fun y => ⟨trivial, .inr (.inr ⟨z, y, trivial⟩)⟩⟩⟩
  -- the reference
  have d : ∀ u : S1, hu (M_Mo_fault a) u (fun v w => (a = 0 ∧ v = gI u 3 0 ∧ gI w 2 0 = 0) ∨ (a = 1 ∧ v = gI u 4 0 ∧ gI w 2 0 = 0) ∨ (¬ a = 0 ∧ ¬ a = 1 ∧ v = 0 ∧ gI w 2 0 = 1)) := fun u => by
    have I : ∀ f, f ≠ 2 → gI (sI u 2 0 0) f 0 = gI u f 0 := fun f z => by rw [gI_sI, if_neg (fun y => z y.1)]
    have i2 : gI (sI u 2 0 0) 2 0 = 0 := by rw [gI_sI, if_pos ⟨rfl, rfl⟩]
    have bad : ¬ a = 0 → ¬ a = 1 → hu (M_Mo_fault_j21 a 1 1) (sI u 2 0 0) (fun v w => (a = 0 ∧ v = gI u 3 0 ∧ gI w 2 0 = 0) ∨ (a = 1 ∧ v = gI u 4 0 ∧ gI w 2 0 = 0) ∨ (¬ a = 0 ∧ ¬ a = 1 ∧ v = 0 ∧ gI w 2 0 = 1)) := fun n1 n2 => by
      simp only [M_Mo_fault_j21, M_Mo_refuse, hu_B, hu_C, hu_GI, hu_PI, hu_R, hu_K]
      refine ⟨fun z => absurd z (by decide), fun _ _ => ⟨fun z => absurd z (by decide), fun _ => .inr (.inr ⟨n1, n2, trivial, ?_⟩)⟩⟩
      rw [gI_sI, if_pos ⟨rfl, rfl⟩]
    unfold M_Mo_fault M_Mo_fault_j16
    rw [hu_B, hu_PI, hu_C]
    refine ⟨fun c => bad (fun z => ?_) (fun z => ?_), fun c => ?_⟩
    · rw [z] at c
      exact absurd c (by decide)
    · rw [z] at c
      exact absurd c (by decide)
    rw [hu_C]
    refine ⟨fun c2 => ?_, fun c2 => bad (fun z => ?_) (fun z => ?_)⟩
    · have a01 : a = 0 ∨ a = 1 := by
        rw [i32_lt, e0] at c
        rw [i32_le, e1] at c2
        have : a.toInt = 0 ∨ a.toInt = 1 := by omega
        exact this.imp (fun z => toInt_inj z) (fun z => toInt_inj z)
      simp only [M_Mo_fault_j21, M_Mo_refuse, hu_B, hu_C, hu_GI, hu_PI, hu_R, hu_K]
      refine ⟨fun _ _ => ⟨fun _ => ⟨fun z => .inl ⟨z, I 3 (by decide), i2⟩, fun z => .inr (.inl ⟨a01.resolve_left z, I 4 (by decide), i2⟩)⟩, fun z => absurd trivial z⟩, fun z => absurd trivial z⟩
    · rw [z] at c2
      exact absurd c2 (by decide)
    · rw [z] at c2
      exact absurd c2 (by decide)
  obtain ⟨r, t, E, q⟩ := ok_out z
  obtain ⟨et, cr⟩ := c r t E
  refine ok_in E fun t' ht => ?_
  obtain ⟨v, w, E2, q2⟩ := ok_out (q t' ht)
  have dr := d t' v w E2
  refine ok_in E2 ⟨q2.1, q2.2, ?_⟩
  have f3 : gI s 12943 0 = gI t' 3 0 := by rw [ht.I, et]; exact h.2.2.1
  have f4 : gI s 12944 0 = gI t' 4 0 := by rw [ht.I, et]; exact h.2.2.2
  rcases cr with ⟨a0, er⟩ | ⟨a1, er⟩ | ⟨n0, n1, er⟩
  · rcases dr with ⟨-, ev, w2⟩ | ⟨a1, -⟩ | ⟨n0, -⟩
    · exact .inl ⟨by rw [er, ev, f3], w2⟩
    · rw [a0] at a1
      exact absurd a1 (by decide)
    · exact absurd a0 n0
  · rcases dr with ⟨a0, -⟩ | ⟨-, ev, w2⟩ | ⟨-, n1, -⟩
    · rw [a1] at a0
      exact absurd a0 (by decide)
    · exact .inl ⟨by rw [er, ev, f4], w2⟩
    · exact absurd a1 n1
  · rcases dr with ⟨a0, -⟩ | ⟨a1, -⟩ | ⟨-, -, ev, w2⟩
    · exact absurd a0 n0
    · exact absurd a1 n1
    · exact .inr ⟨er, ev, w2⟩
/-! end, feed, load -/
theorem jf_end (h : Jf s n m e) (a : Int32) : ok (X_end a) s (fun r t => ∀ t', ouT t t' → ok (M_Mo_end a) t' (fun v w => Jf w n m e ∧ gB w 155 0 0 = gB t' 155 0 0 ∧ ((r = .inr v ∧ gI w 2 0 = 0) ∨ (r = .inl 2 ∧ v = 0 ∧ gI w 2 0 = 1)))) := by
  obtain ⟨hj, tp, fl⟩ := h
  have c : hu (X_end a) s (fun _ t => (∀ b i j, gA t b i j = gA s b i j) ∧ (∀ f, f ≠ 12800 → gI t f 0 = gI s f 0) ∧ (gI t 12800 0).toInt ≤ (gI s 12800 0).toInt) := by
    unfold X_end
    simp only [hu_B, hu_C, hu_R, hu_GI, hu_PI]
    refine ⟨fun _ => ⟨fun _ _ _ => trivial, fun _ _ => trivial, Int.le_refl _⟩, fun _ => ⟨fun c2 => ⟨fun _ _ _ => rfl, fun f z => by rw [gI_sI, if_neg (fun y => z y.1)], ?_⟩, fun _ => ⟨fun _ _ _ => trivial, fun _ _ => trivial, Int.le_refl _⟩⟩⟩
    rw [gI_sI, if_pos ⟨rfl, rfl⟩]
    rw [i32_le] at c2
    exact c2
  obtain ⟨r, t, E, q⟩ := ok_out (jp_end hj a)
  obtain ⟨cA, cI, cl⟩ := c r t E
  refine ok_in E fun t' ht => ?_
  obtain ⟨v, w, E2, q2⟩ := ok_out (q t' ht)
  have z := w5_Mo_end a t' v w E2
  have yr := yk_Mo_end a t' v w E2
  refine ok_in E2 ⟨⟨q2.1, fun j j0 j1 => ?_, ?_, ?_⟩, q2.2⟩
  · rw [yr.1 12800 0 (by omega), ht.I] at j1
    rw [yr.2.2.1 108 0 j (by omega), z.2 j, ht.A, ht.A, cA, cA]
    exact tp j j0 (by omega)
  · rw [yr.1 12943 0 (by omega), ht.I, cI 12943 (by decide), z.1 3 (.inl rfl), ht.I, cI 3 (by decide)]
    exact fl.1
  · rw [yr.1 12944 0 (by omega), ht.I, cI 12944 (by decide), z.1 4 (.inr rfl), ht.I, cI 4 (by decide)]
    exact fl.2
theorem jf_load (h : Jf s n m e) : ok (X_load n) s (fun r t => ∀ t', ouT t t' → ok (M_Mo_load_ m) t' (fun v w => Jf w r.2 v.2 e ∧ gB w 155 0 0 = gB t' 155 0 0)) := by
  obtain ⟨hj, tp, fl⟩ := h
  obtain ⟨r, t, E, q⟩ := ok_out (jp_load hj)
  refine ok_in E fun t' ht => ?_
  obtain ⟨v, w, E2, q2⟩ := ok_out (q t' ht)
  have zr := zx_load n s r t E
  have yr := yk_Mo_load_ m t' v w E2
  have l2 := load2 (m := m) hj.1.1 (t := t') (by rw [ht.I, zr.1 1 0 (by omega)]; exact hj.2) (fun j j0 j1 => by rw [ht.A, zr.2.2.1 41 0 j (by omega)]; exact tp j j0 j1) r t E v w E2
  refine ok_in E2 ⟨⟨q2.1, fun j j0 j1 => ?_, ?_, ?_⟩, q2.2⟩
  · have e0 : (0 : Int32).toInt = 0 := rfl
    rw [yr.1 12800 0 (by omega), ht.I, hxload n s r t E, e0] at j1
    omega
  · rw [yr.1 12943 0 (by omega), ht.I]
    exact l2.1
  · rw [yr.1 12944 0 (by omega), ht.I]
    exact l2.2
theorem fk_Nw {k : Nat} (n : Nat × Nat) (j : Nat) : Fk k (oNw n j) := fk_id fun s x t e => by
  unfold oNw at e
  exact ifs_st e
theorem fk_mfeed {k : Nat} (hk : k = 3 ∨ k = 4) (m : Nat × Nat) (a b c d e : Int32) : Fk k (M_Mo_feed m a b c d e) := by
  have lp : ∀ x, Fk k (M_Mo_feed_L60 x) := fun x => by
    unfold M_Mo_feed_L60
    exact fk_C (fk_R _) (fk_B (fk_GI _ _) fun _ => fk_B (fk_PI (by omega)) fun _ => fk_B (fk_AI _ _ _ _) fun _ => fk_B fk_SI fun _ => fk_R _)
  have rf : ∀ x y, Fk k (M_Mo_refuse x y) := fun x y => by
    unfold M_Mo_refuse
    exact fk_C (fk_B (fk_K _) fun _ => fk_R _) (fk_B (fk_PI (by omega)) fun _ => fk_B (fk_K _) fun _ => fk_R _)
  have nw : ∀ r i N, Fk k (oS fun s => nwR s r i N) := fun r i N s a t e => by
    cases e
    show gI (nwR s r i N) k 0 = _
    rw [gI_nwR, if_neg (fun y => by omega), if_neg (fun y => by omega)]
  have j22 : ∀ x y, Fk k (M_Mo_feed_j22 a b c d e m x y) := fun x y => by
    unfold M_Mo_feed_j22
    exact fk_B (rf _ _) fun _ => fk_C (fk_B (fk_Nw _ _) fun _ => fk_B (nw _ _ _) fun _ => fk_B fk_SI fun _ => fk_B fk_SI fun _ => fk_B fk_SI fun _ => fk_B fk_SI fun _ => fk_B fk_SI fun _ => fk_B (fk_W lp _) fun _ => fk_B (fk_GI _ _) fun _ => fk_R _) (fk_R _)
  unfold M_Mo_feed
  exact fk_B (fk_PI (by omega)) fun _ => fk_B (fk_GI _ _) fun _ => fk_C (j22 _ _) (j22 _ _)
theorem fk_xfeed {k : Nat} (hk : k = 12943 ∨ k = 12944) (a b c d e : Int32) : Fk k (X_feed a b c d e) := by
  have pt : ∀ v, Fk k (M_LM_putOnTape v) := fun v => by
    unfold M_LM_putOnTape
    refine fk_B (fk_W (fun x => ?_) _) fun _ => fk_R _
    unfold M_LM_putOnTape_L3
    exact fk_C (fk_R _) (fk_B (fk_GI _ _) fun _ => fk_B fk_SI fun _ => fk_B (fk_GI _ _) fun _ => fk_B (fk_PI (by omega)) fun _ => fk_R _)
  unfold X_feed
  exact fk_B (fk_GI _ _) fun _ => fk_C (fk_B (pt _) fun _ => fk_B (pt _) fun _ => fk_B (pt _) fun _ => fk_B (pt _) fun _ => fk_B (pt _) fun _ => fk_B (fk_GI _ _) fun _ => fk_R _) (fk_R _)
theorem jf_feed (h : Jf s n m (e.1 + 1, e.2 + 5)) (a b c d f : Int32) : ok (X_feed a b c d f) s (fun r t => ∀ t', ouT t t' → ok (M_Mo_feed m a b c d f) t' (fun v w => Jf w n v.2 e ∧ gB w 155 0 0 = gB t' 155 0 0 ∧ ((r = .inr v.1 ∧ gI w 2 0 = 0) ∨ (r = .inl 1 ∧ v.1 = 0 ∧ gI w 2 0 = 1)))) := by
  obtain ⟨hj, tp, fl⟩ := h
  obtain ⟨r, t, E, q⟩ := ok_out (jp_feed hj a b c d f)
  have zr := zx_feed a b c d f s r t E
  have bx := xfeedB hj.1.1.1.1 hj.1.1.1.2 a b c d f r t E
  have fc := (jfeedC hj.1.1 a b c d f).det r t E
  refine ok_in E fun t' ht => ?_
  obtain ⟨v, w, E2, q2⟩ := ok_out (q t' ht)
  have yr := yk_Mo_feed m a b c d f t' v w E2
  have l1 : gI t' 1 0 = gI s 1 0 := (ht.I _ _).trans (zr.1 1 0 (by omega))
  have l0 : gI s 12800 0 = gI s 1 0 := hj.2
  have s0 : 0 ≤ (gI s 12800 0).toInt := hj.1.1.1.1
  have bm := mfeedB (s := t') (m := m) (by rw [l1, ← l0]; exact s0) a b c d f v w E2
  have a41 : ∀ j, gA t' 41 0 j = gA s 41 0 j := fun j => (ht.A _ _ _).trans (zr.2.2.1 41 0 j (by omega))
  have a108 : ∀ j, gA w 108 0 j = gA t 108 0 j := fun j => (yr.2.2.1 108 0 j (by omega)).trans (ht.A _ _ _)
  refine ok_in E2 ⟨⟨q2.1, fun j j0 j1 => ?_, ?_, ?_⟩, q2.2⟩
  · have lw : gI w 12800 0 = gI t 12800 0 := (yr.1 12800 0 (by omega)).trans (ht.I _ _)
    rw [lw] at j1
    rw [a108]
    rcases q2.2.2 with ⟨er, w2⟩ | ⟨er, -, w2⟩
    · obtain ⟨b1, b2⟩ := bx v.1 er
      obtain ⟨c1, c2⟩ := bm.1 w2
      rw [l1, ← l0] at c1 c2
      rcases fc.2.2 with ⟨f1, -, f3⟩ | ⟨-, f2, -⟩
      · by_cases lt : j.toInt < (gI s 12800 0).toInt
        · have x1 : gA t 108 0 j = gA s 108 0 j := b1 j lt
          have x2 : gA w 41 0 j = gA t' 41 0 j := c1 j lt
          rw [x1, x2, a41]
          exact tp j j0 lt
        · have ek : j = gI s 12800 0 + Int32.ofNat (j.toInt - (gI s 12800 0).toInt).toNat := by
            refine toInt_inj ?_
            rw [ktI_add, oI (by omega)]
            · omega
            · rw [oI (by omega)]
              omega
          have x1 := b2 (j.toInt - (gI s 12800 0).toInt).toNat (by omega)
          have x2 := c2 (j.toInt - (gI s 12800 0).toInt).toNat (by omega)
          rw [← ek] at x1 x2
          exact x1.trans x2.symm
      · rw [er] at f2
        cases f2
    · have x2 := bm.2 w2
      rcases fc.2.2 with ⟨-, f2, -⟩ | ⟨-, -, f3⟩
      · rw [er] at f2
        cases f2
      · rw [f3] at j1 ⊢
        rw [x2, a41]
        exact tp j j0 j1
  · rw [yr.1 12943 0 (by omega), ht.I, fk_xfeed (.inl rfl) a b c d f s r t E, fk_mfeed (.inl rfl) m a b c d f t' v w E2, ht.I, zr.1 3 0 (by omega)]
    exact fl.1
  · rw [yr.1 12944 0 (by omega), ht.I, fk_xfeed (.inr rfl) a b c d f s r t E, fk_mfeed (.inr rfl) m a b c d f t' v w E2, ht.I, zr.1 4 0 (by omega)]
    exact fl.2
end PR
