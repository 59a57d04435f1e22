theorem jlim2 {s : S1} {n m e : Nat × Nat} (h : Jz s n m e) (a : Int32) : ok (X_limit a) s (fun r t => ∀ t', (t' = t ∨ ∃ x, t' = sB t 155 0 0 x) → ok (M_Mo_limit a) t' (fun v w => Jz w n m e ∧ gB w 155 0 0 = gB t' 155 0 0 ∧ ((r = .inr v ∧ gI w 2 0 = 0) ∨ (r = .inl 2 ∧ v = 0 ∧ gI w 2 0 = 1)))) := by
  refine ok_mono (jlimC h.1 a) ?_
  rintro r t ⟨ft, I, T2, q⟩ t' ht
  have vt : Vz t m e := by
    have rb : Rb s t := ⟨fun f i z => I f i (by omega), fun f i _ => by show t.2.1 f i = s.2.1 f i; rw [T2], fun b i j _ => by show t.2.2.1 b i j = s.2.2.1 b i j; rw [T2], fun b i j _ => by show t.2.2.2 b i j = s.2.2.2 b i j; rw [T2]⟩
    refine rb.vz h.2.1 ?_ (fun z => ?_)
    · unfold f_size
      rw [I 1 0 (by decide)]
      exact h.2.1.1
    · unfold f_chunk at z ⊢
      rw [I 5 0 (by decide)] at z
      exact z
  have both : Fz t' n ∧ Vz t' m e ∧ ∀ f i, gI t' f i = gI t f i := by
    rcases ht with rfl | ⟨x, rfl⟩
    · exact ⟨ft, vt, fun _ _ => rfl⟩
    · have b5 : Be5 t (sB t 155 0 0 x) := ⟨fun _ _ _ => rfl, fun _ _ _ => rfl, fun _ _ _ _ => rfl, fun a j k q => by rw [gB_sB, if_neg (fun z => q.2 z.1)]⟩
      have z : Zr 100 true t (sB t 155 0 0 x) := ⟨fun _ _ _ => rfl, fun _ _ _ => rfl, fun _ _ _ _ => rfl, fun a i j q => by rw [gB_sB, if_neg (fun z => by omega)], fun _ => rfl⟩
      exact ⟨ft.be5 b5 ft.lm ft.1 (fun q => q), z.vz vt, fun _ _ => rfl⟩
  obtain ⟨ft', vt', I'⟩ := both
  refine ok_mono (jlimR vt' a) ?_
  rintro v w ⟨vw, yr, p⟩
  have fw : Fz w n := yr.fz ft'
  have e1 : gI w 14220 0 = gI t 14220 0 := (yr.1 14220 0 (by omega)).trans (I' _ _)
  have e2 : gI t' 32 0 = gI s 32 0 := (I' _ _).trans (I 32 0 (by decide))
  have e3 : gB w 155 0 0 = gB t' 155 0 0 := yr.2.2.2 155 0 0 (by omega)
  rcases q with ⟨l, er, et⟩ | ⟨l, er, et⟩
  · rcases p with ⟨-, ev, ew, e0⟩ | ⟨l', -⟩
    · exact ⟨⟨fw, vw, by rw [e1, et, ew]⟩, e3, .inl ⟨by rw [er, ev, e2, h.2.2], e0⟩⟩
    · exact absurd l l'
  · rcases p with ⟨l', -⟩ | ⟨-, ev, ew, e0⟩
    · exact absurd l' l
    · exact ⟨⟨fw, vw, by rw [e1, ew, e2, et]; exact h.2.2⟩, e3, .inr ⟨er, ev, e0⟩⟩
/-! Both machines: the tapes' lengths go on agreeing over every pair of calls. -/
def Fk (n : Nat) {α : Type} (f : M α) : Prop := ∀ s a t, f s = some (a, t) → gI t n 0 = gI s n 0
theorem Uk.f1 {α : Type} {f : M α} (h : Uk f) : Fk 1 f := fun s a t e => (h s a t e).1 1 (.inl rfl)
theorem Zk.f0 {b : Bool} {α : Type} {f : M α} (h : Zk 101 b f) : Fk 12800 f := fun s a t e => (h s a t e).1 12800 0 (.inl (by decide))
theorem Zk.f1 {b : Bool} {α : Type} {f : M α} (h : Zk 100 b f) : Fk 1 f := fun s a t e => (h s a t e).1 1 0 (.inl (by decide))
theorem fk_id {n : Nat} {α : Type} {f : M α} (h : ∀ s a t, f s = some (a, t) → t = s) : Fk n f := fun s a t e => by rw [h s a t e]
theorem fk_R {n : Nat} {α : Type} (a : α) : Fk n (oR a) := fk_id fun s a t e => by cases e; rfl
theorem fk_GI {n : Nat} (f : Nat) (i : Int32) : Fk n (oGI f i) := fk_id fun s a t e => by cases e; rfl
theorem fk_AI {n : Nat} (a : Nat) (k i j : Int32) : Fk n (oAI a k i j) := fk_id fun s x t e => ifs_st (x := (gA s a i j, s)) e
theorem fk_PI {n f : Nat} {i x : Int32} (h : f ≠ n) : Fk n (oPI f i x) := fun s a t e => by
  cases e
  show gI (sI s f i x) n 0 = gI s n 0
  rw [gI_sI, if_neg (fun z => h z.1.symm)]
theorem fk_SI {n : Nat} {a : Nat} {k i j x : Int32} : Fk n (oSI a k i j x) := fun s y t e => by
  rw [ifs_st (x := ((), sA s a i j x)) e]
  rfl
theorem fk_B {n : Nat} {α β : Type} {f : M α} {g : α → M β} (hf : Fk n f) (hg : ∀ a, Fk n (g a)) : Fk n (oB f g) := fun s c t e => by
  unfold oB at e
  cases h : f s with
  | none => rw [h] at e; cases e
  | some q =>
    rw [h] at e
    obtain ⟨a, u⟩ := q
    exact (hg a u c t e).trans (hf s a u h)
theorem fk_C {n : Nat} {α : Type} {c : Prop} [Decidable c] {f g : M α} (hf : Fk n f) (hg : Fk n g) : Fk n (oC c f g) := fun s a t e => by
  unfold oC at e
  by_cases d : c
  · rw [if_pos d] at e
    exact hf s a t e
  · rw [if_neg d] at e
    exact hg s a t e
theorem fk_W {n : Nat} {σ ρ : Type} {body : σ → M (σ ⊕ ρ)} (h : ∀ x, Fk n (body x)) (x : σ) : Fk n (oW body x) := fun s a t e => by
  obtain ⟨k, hn⟩ := oW_n body x s (a, t) e
  clear e
  induction k generalizing x s with
  | zero => cases hn
  | succ k ih =>
    cases hc : body x s with
    | none => simp only [oWn, hc] at hn; cases hn
    | some p =>
      obtain ⟨y, s2⟩ := p
      have w := h x s y s2 hc
      cases y with
      | inl y =>
        simp only [oWn, hc] at hn
        exact (ih y s2 hn).trans w
      | inr e =>
        simp only [oWn, hc] at hn
        cases hn
        exact w
/-- the law's row may have been written between the two calls -/
def ouT (t t' : S1) : Prop := t' = t ∨ ∃ x, t' = sB t 155 0 0 x
theorem ouT.I {t t' : S1} (h : ouT t t') (f : Nat) (i : Int32) : gI t' f i = gI t f i := by
  rcases h with rfl | ⟨x, rfl⟩ <;> rfl
theorem ouT.A {t t' : S1} (h : ouT t t') (a : Nat) (i j : Int32) : gA t' a i j = gA t a i j := by
  rcases h with rfl | ⟨x, rfl⟩ <;> rfl
theorem ouT.jz {t t' : S1} {n m e : Nat × Nat} (h : ouT t t') (j : Jz t n m e) : Jz t' n m e := by
  rcases h with rfl | ⟨x, rfl⟩
  · exact j
  · exact jz_ou j x
theorem Zr.tl {s t : S1} {b : Bool} (h : Zr 100 b s t) : gI t 1 0 = gI s 1 0 := h.1 1 0 (.inl (by decide))
/-- both calls leave the tapes -/
theorem jpair {α β : Type} {f : M α} {g : M β} {s : S1} {n m e : Nat × Nat} (h : Jt s n m e) (k : ok f s (fun _ t => Jz t n m e ∧ gI t 12800 0 = gI s 12800 0 ∧ gI t 1 0 = gI s 1 0)) (r : ∀ t, Jz t n m e → ok g t (fun _ w => Jz w n m e)) (y : Yk g) (u : Fk 1 g) :
    ok f s (fun _ t => ∀ t', ouT t t' → ok g t' (fun _ w => Jt w n m e ∧ gB w 155 0 0 = gB t' 155 0 0)) := by
  refine ok_mono k ?_
  rintro a t ⟨jt, e0, e1⟩ t' ht
  obtain ⟨b, w, E2, q2⟩ := ok_out (r t' (ht.jz jt))
  have yr := y t' b w E2
  refine ok_in E2 ⟨⟨q2, ?_⟩, yr.2.2.2 155 0 0 (by omega)⟩
  rw [yr.1 12800 0 (by omega), u t' b w E2, ht.I, ht.I, e0, e1]
  exact h.2
theorem jtS {α : Type} {f : M α} {s : S1} {n m e : Nat × Nat} (h : Jt s n m e) (k : ok f s (Sst s)) : ok f s (fun _ t => Jz t n m e ∧ gI t 12800 0 = gI s 12800 0 ∧ gI t 1 0 = gI s 1 0) := ok_mono k fun _ t q => by
  have : t = s := q
  rw [this]
  exact ⟨h.1, rfl, rfl⟩
theorem fk_collect : Fk 12800 X_collect := by
  unfold X_collect
  exact fk_B (fk_GI _ _) fun _ => fk_C (fk_R _) (fk_B zk_He_clean.wy.f0 fun _ => fk_B (fk_AI _ _ _ _) fun _ => fk_R _)
theorem fk_run (n : Nat × Nat) (a : Int32) : Fk 12800 (X_run n a) := by
  unfold X_run
  exact fk_C (fk_R _) (fk_C (fk_B (fk_GI _ _) fun _ => fk_C (fk_R _) (fk_B (zk_LM_run _ _).wy.f0 fun _ => fk_R _)) (fk_R _))
theorem jp_fault {s : S1} {n m e : Nat × Nat} (h : Jt s n m e) (a : Int32) : ok (X_fault a) s (fun _ t => ∀ t', ouT t t' → ok (M_Mo_fault a) t' (fun _ w => Jt w n m e ∧ gB w 155 0 0 = gB t' 155 0 0)) := jpair h (jtS h (fault_ok h.1.1 a)) (fun _ j => jr_fault j a) (yk_Mo_fault a) (uk_Mo_fault a).f1
theorem jp_kind {s : S1} {n m e : Nat × Nat} (h : Jt s n m e) (a : Int32) : ok (X_kind a) s (fun _ t => ∀ t', ouT t t' → ok (M_Mo_kind a) t' (fun _ w => Jt w n m e ∧ gB w 155 0 0 = gB t' 155 0 0)) := jpair h (jtS h (kind_ok h.1.1 a)) (fun _ j => jr_kind j a) (yk_Mo_kind a) (uk_Mo_kind a).f1
theorem jp_value {s : S1} {n m e : Nat × Nat} (h : Jt s n m e) (a : Int32) : ok (X_value a) s (fun _ t => ∀ t', ouT t t' → ok (M_Mo_value a) t' (fun _ w => Jt w n m e ∧ gB w 155 0 0 = gB t' 155 0 0)) := jpair h (jtS h (value_ok h.1.1 a)) (fun _ j => jr_value j a) (yk_Mo_value a) (uk_Mo_value a).f1
theorem jp_byteOf {s : S1} {n m e : Nat × Nat} (h : Jt s n m e) (a b : Int32) : ok (X_byteOf a b) s (fun _ t => ∀ t', ouT t t' → ok (M_Mo_byteOf_ a b) t' (fun _ w => Jt w n m e ∧ gB w 155 0 0 = gB t' 155 0 0)) := jpair h (jtS h (byteOf_ok h.1.1 a b)) (fun _ j => jr_byteOf j a b) (yk_Mo_byteOf_ a b) (uk_Mo_byteOf_ a b).f1
theorem jp_output {s : S1} {n m e : Nat × Nat} (h : Jt s n m e) (a : Int32) : ok (X_output a) s (fun _ t => ∀ t', ouT t t' → ok (M_Mo_output a) t' (fun _ w => Jt w n m e ∧ gB w 155 0 0 = gB t' 155 0 0)) := jpair h (jtS h (output_ok h.1.1 a)) (fun _ j => jr_output j a) (yk_Mo_output a) (uk_Mo_output a).f1
theorem jp_count {s : S1} {n m e : Nat × Nat} (h : Jt s n m e) (a : Int32) : ok (M_LM_count a) s (fun _ t => ∀ t', ouT t t' → ok (M_Mo_count a) t' (fun _ w => Jt w n m e ∧ gB w 155 0 0 = gB t' 155 0 0)) := jpair h (jtS h (count_ok h.1.1 a)) (fun _ j => jr_count j a) (yk_Mo_count a) (uk_Mo_count a).f1
theorem jp_collect {s : S1} {n m e : Nat × Nat} (h : Jt s n m e) : ok X_collect s (fun _ t => ∀ t', ouT t t' → ok M_Mo_collect t' (fun _ w => Jt w n m e ∧ gB w 155 0 0 = gB t' 155 0 0)) := by
  refine jpair h ?_ (fun _ j => jr_collect j) yk_Mo_collect uk_Mo_collect.f1
  obtain ⟨a, t, E, q⟩ := ok_out (jx_collect h.1)
  exact ok_in E ⟨q, fk_collect s a t E, (zx_collect s a t E).tl⟩
theorem jp_run {s : S1} {n m e : Nat × Nat} (h : Jt s n m e) (a : Int32) : ok (X_run n a) s (fun r t => ∀ t', ouT t t' → ok (M_Mo_run a) t' (fun _ w => Jt w r.2 m e ∧ gB w 155 0 0 = gB t' 155 0 0)) := by
  obtain ⟨x, t, E, q⟩ := ok_out (jx_run h.1 a)
  refine ok_in E fun t' ht => ?_
  obtain ⟨b, w, E2, q2⟩ := ok_out (jr_run (ht.jz q) a)
  have yr := yk_Mo_run a t' b w E2
  refine ok_in E2 ⟨⟨q2, ?_⟩, yr.2.2.2 155 0 0 (by omega)⟩
  rw [yr.1 12800 0 (by omega), (uk_Mo_run a).f1 t' b w E2, ht.I, ht.I, fk_run n a s x t E, (zx_run n a s x t E).tl]
  exact h.2
/-! load: both tapes are empty behind it -/
theorem hxload (n : Nat × Nat) (s : S1) : hu (X_load n) s (fun _ t => gI t 12800 0 = 0) := by
  have rest : ∀ v1 : Int32, Fk 12800 (oB (oPI 12801 0 0) fun _ => oB (M_Ch_readAll n v1) fun v20 => oC (v20.1 = 0) (oR ((Sum.inl 3, v20.2) : (Int32 ⊕ Int32) × (Nat × Nat))) (oB (M_Ch_checkAll) fun v30 => oC (v30 = 0) (oR (Sum.inl 3, v20.2)) (oB (oPI 16641 0 0) fun _ => oB (M_Ma_boot v20.2) fun v56 => oC (v56.1 = 0) (oR (Sum.inl 1, v56.2)) (oB (oPI 12801 0 1) fun _ => oB (oGI 12937 0) fun v79 => oR (Sum.inr v79, v56.2))))) := fun v1 =>
    fk_B (fk_PI (by decide)) fun _ => fk_B (zl_Ch_readAll _ _).f0 fun _ => fk_C (fk_R _) (fk_B zl_Ch_checkAll.f0 fun _ => fk_C (fk_R _) (fk_B (fk_PI (by decide)) fun _ => fk_B (zl_Ma_boot _).f0 fun _ => fk_C (fk_R _) (fk_B (fk_PI (by decide)) fun _ => fk_B (fk_GI _ _) fun _ => fk_R _)))
  unfold X_load
  rw [hu_B, hu_GI, hu_B, hu_PI]
  intro a t E
  rw [rest _ _ a t E, gI_sI, if_pos ⟨rfl, rfl⟩]
theorem fk_j145 (ln : Nat × Nat) (k0 k1 : Int32) : Fk 1 (M_Mo_load__j145 ln k0 k1) := by
  unfold M_Mo_load__j145
  exact fk_B (uk_Mo_refuse _ _).f1 fun _ => fk_C (fk_B (fk_PI (by decide)) fun _ => fk_B (fk_GI _ _) fun _ => fk_R _) (fk_B (uk_Mo_clear _).f1 fun _ => fk_R _)
theorem fk_j119 (ln : Nat × Nat) (k0 k1 : Int32) : Fk 1 (M_Mo_load__j119 ln k0 k1) := by
  unfold M_Mo_load__j119
  exact fk_B (uk_Mo_refuse _ _).f1 fun _ => fk_C (fk_B (uk_Mo_clear _).f1 fun _ => fk_B uk_Mo_begin.f1 fun _ => fk_C (fk_j145 _ _ _) (fk_j145 _ _ _)) (fk_R _)
theorem hrload (n : Nat × Nat) (s : S1) : hu (M_Mo_load_ n) s (fun _ t => gI t 1 0 = 0) := by
  have j100 : ∀ s, hu (M_Mo_load__j100 n) s (fun _ t => gI t 1 0 = 0) := fun s => by
    unfold M_Mo_load__j100
    rw [hu_B, hu_PI, hu_B, hu_GI, hu_C]
    have z : ∀ k, hu (M_Mo_load__j119 n k 1) (sI s 1 0 0) (fun _ t => gI t 1 0 = 0) := fun k a t E => by
      show gI t 1 0 = 0
      rw [fk_j119 n k 1 _ a t E, gI_sI, if_pos ⟨rfl, rfl⟩]
    exact ⟨fun _ => z 0, fun _ => z 1⟩
  have j89 : ∀ s, hu (M_Mo_load__j89 n) s (fun _ t => gI t 1 0 = 0) := fun s => by
    unfold M_Mo_load__j89
    exact hu_S fun _ _ => (hu_C _ _ _ _ _).2 ⟨fun _ => hu_S fun _ _ => j100 _, fun _ => j100 _⟩
  unfold M_Mo_load_
  exact hu_S fun _ _ => hu_S fun _ _ => hu_S fun _ _ => hu_S fun _ _ => hu_S fun _ _ => hu_S fun _ _ => hu_S fun _ _ => hu_S fun _ _ => hu_S fun _ _ => hu_S fun _ _ => hu_S fun _ _ => hu_S fun _ _ => hu_S fun _ _ => (hu_C _ _ _ _ _).2 ⟨fun _ => hu_S fun _ _ => hu_S fun _ _ => (hu_C _ _ _ _ _).2 ⟨fun _ => j89 _, fun _ => hu_S fun _ _ => hu_S fun _ _ => j89 _⟩, fun _ => j89 _⟩
theorem jp_load {s : S1} {n m e : Nat × Nat} (h : Jt s n m e) : ok (X_load n) s (fun r t => ∀ t', ouT t t' → ok (M_Mo_load_ m) t' (fun v w => Jt w r.2 v.2 e ∧ gB w 155 0 0 = gB t' 155 0 0)) := by
  obtain ⟨x, t, E, q⟩ := ok_out (jx_load h.1)
  refine ok_in E fun t' ht => ?_
  obtain ⟨b, w, E2, q2⟩ := ok_out (jr_load (ht.jz q))
  have yr := yk_Mo_load_ m t' b w E2
  refine ok_in E2 ⟨⟨q2, ?_⟩, yr.2.2.2 155 0 0 (by omega)⟩
  rw [yr.1 12800 0 (by omega), ht.I, hxload n s x t E, hrload m t' b w E2]
/-! limit -/
theorem jp_limit {s : S1} {n m e : Nat × Nat} (h : Jt s n m e) (a : Int32) : ok (X_limit a) s (fun r t => ∀ t', ouT t t' → ok (M_Mo_limit a) t' (fun v w => Jt w n m e ∧ gB w 155 0 0 = gB t' 155 0 0 ∧ ((r = .inr v ∧ gI w 2 0 = 0) ∨ (r = .inl 2 ∧ v = 0 ∧ gI w 2 0 = 1)))) := by
  obtain ⟨x, t, E, q⟩ := ok_out (jlim2 h.1 a)
  obtain ⟨x', t1, E1, q1⟩ := ok_out (jlimC h.1.1 a)
  obtain ⟨rfl, rfl⟩ : x' = x ∧ t1 = t := by
    rw [E] at E1
    cases E1
    exact ⟨rfl, rfl⟩
  refine ok_in E fun t' ht => ?_
  obtain ⟨b, w, E2, q2⟩ := ok_out (q t' ht)
  have yr := yk_Mo_limit a t' b w E2
  have f1 : Fk 1 (M_Mo_limit a) := by
    have j26 : ∀ k1 k2 : Int32, Fk 1 (M_Mo_limit_j26 a k1 k2) := fun k1 k2 => by
      unfold M_Mo_limit_j26
      exact fk_B (uk_Mo_refuse _ _).f1 fun _ => fk_C (fk_B (fk_GI _ _) fun _ => fk_B (fk_PI (by decide)) fun _ => fk_R _) (fk_R _)
    unfold M_Mo_limit
    refine fk_B (fk_PI (by decide)) fun _ => fk_C ?_ (fk_C (j26 _ _) ?_)
    · exact j26 _ _
    · exact j26 _ _
  refine ok_in E2 ⟨⟨q2.1, ?_⟩, q2.2⟩
  rw [yr.1 12800 0 (by omega), f1 t' b w E2, ht.I, ht.I, q1.2.1 12800 0 (by decide), q1.2.1 1 0 (by decide)]
  exact h.2
/-! end -/
theorem jp_end {s : S1} {n m e : Nat × Nat} (h : Jt s n m e) (a : Int32) : ok (X_end a) s (fun r t => ∀ t', ouT t t' → ok (M_Mo_end a) t' (fun v w => Jt w n m e ∧ gB w 155 0 0 = gB t' 155 0 0 ∧ ((r = .inr v ∧ gI w 2 0 = 0) ∨ (r = .inl 2 ∧ v = 0 ∧ gI w 2 0 = 1)))) := by
  refine ok_mono (jendC h.1.1 a) ?_
  rintro r t ⟨ft, zr, q⟩ t' ht
  have jt := ht.jz (h.1.cls ft zr)
  have e1 : gI t' 1 0 = gI s 1 0 := (ht.I _ _).trans (zr.1 1 0 (by omega))
  refine ok_mono (jendR jt.2.1 a) ?_
  rintro v w ⟨vw, yr, l, p⟩
  have jw := jt.ref vw yr l
  have e2 : gI w 12800 0 = gI t 12800 0 := (yr.1 12800 0 (by omega)).trans (ht.I _ _)
  have e3 : gB w 155 0 0 = gB t' 155 0 0 := yr.2.2.2 155 0 0 (by omega)
  rw [e1, ← h.2] at p
  rcases q with ⟨q1, er, et⟩ | ⟨q1, er, et⟩
  · rcases p with ⟨-, ev, ew, e0⟩ | ⟨l', -⟩
    · exact ⟨⟨jw, by rw [e2, et, ew]⟩, e3, .inl ⟨by rw [er, ev], e0⟩⟩
    · exact absurd q1 l'
  · rcases p with ⟨l', -⟩ | ⟨-, ev, ew, e0⟩
    · exact absurd l' q1
    · exact ⟨⟨jw, by rw [e2, ew, et]⟩, e3, .inr ⟨er, ev, e0⟩⟩
/-! feed -/
theorem fk2_feedL (x : Int32 × Int32 × (Nat × Nat)) : Fk 2 (oW M_Mo_feed_L60 x) := by
  refine fk_W (fun x => ?_) x
  unfold M_Mo_feed_L60
  exact fk_C (fk_R _) (fk_B (fk_GI _ _) fun _ => fk_B (fk_PI (by decide)) fun _ => fk_B (fk_AI _ _ _ _) fun _ => fk_B fk_SI fun _ => fk_R _)
def frQ (s : S1) (e : Nat × Nat) (v : Int32 × (Nat × Nat)) (t : S1) : Prop := Vz t v.2 e ∧ Yr s t ∧ gI t 32 0 = gI s 32 0 ∧ (((gI s 1 0).toInt ≤ 65516 ∧ v.1 = gI t 1 0 ∧ (gI t 1 0).toInt = (gI s 1 0).toInt + 20 ∧ gI t 2 0 = 0) ∨ (65516 < (gI s 1 0).toInt ∧ v.1 = 0 ∧ gI t 1 0 = gI s 1 0 ∧ gI t 2 0 = 1))
def frP (s : S1) (v : Int32 × (Nat × Nat)) (t : S1) : Prop := ((gI s 1 0).toInt ≤ 65516 ∧ v.1 = gI t 1 0 ∧ (gI t 1 0).toInt = (gI s 1 0).toInt + 20 ∧ gI t 2 0 = 0) ∨ (65516 < (gI s 1 0).toInt ∧ v.1 = 0 ∧ gI t 1 0 = gI s 1 0 ∧ gI t 2 0 = 1)
theorem huS (f : S1 → S1) (s : S1) (Q : Unit → S1 → Prop) : hu (oS f) s Q ↔ Q () (f s) := hu_some rfl Q
theorem huSI (a : Nat) (n i j x : Int32) (s : S1) (Q : Unit → S1 → Prop) : hu (oSI a n i j x) s Q ↔ ((0 ≤ j ∧ j < n) → Q () (sA s a i j x)) := hu_ifs rfl Q
theorem huNw (n : Nat × Nat) (k : Nat) (s : S1) (Q : Nat × Nat → S1 → Prop) : hu (oNw n k) s Q ↔ ((1 ≤ n.1 ∧ k ≤ n.2) → Q (n.1 - 1, n.2 - k) s) := hu_ifs rfl Q
theorem hfeedL {s : S1} {m : Nat × Nat} (h0 : 0 ≤ (gI s 1 0).toInt) (h1 : (gI s 1 0).toInt ≤ 65516) : hu (oW M_Mo_feed_L60 (0, 0, m)) s (fun _ t => (gI t 1 0).toInt = (gI s 1 0).toInt + 20 ∧ gI t 2 0 = gI s 2 0) := by
  intro a t E
  obtain ⟨a', t', E', q⟩ := ok_out (rfeedL (s := s) (m := m) h0 h1)
  rw [E] at E'
  cases E'
  exact ⟨q.2.1, fk2_feedL _ s a t E⟩
theorem hfeed {s : S1} {m : Nat × Nat} (h0 : 0 ≤ (gI s 1 0).toInt) (a b c d f : Int32) : hu (M_Mo_feed m a b c d f) s (frP s) := by
  have e6 : (65516 : Int32).toInt = 65516 := rfl
  have I1 : gI (sI s 2 0 0) 1 0 = gI s 1 0 := by rw [gI_sI, if_neg (fun z => absurd z.1 (by decide))]
  have I2 : gI (sI s 2 0 0) 2 0 = 0 := by rw [gI_sI, if_pos ⟨rfl, rfl⟩]
  unfold M_Mo_feed
  rw [hu_B, hu_PI, hu_B, hu_GI, I1, hu_C]
  refine ⟨fun c => ?_, fun c => ?_⟩
  · rw [i32_le, e6] at c
    simp only [M_Mo_feed_j22, M_Mo_refuse, hu_B, hu_C, hu_GI, hu_PI, hu_R, hu_K, huNw, huS, huSI]
    refine ⟨fun _ _ => ⟨fun _ _ _ _ _ _ _ => ?_, fun z => absurd trivial z⟩, fun z => absurd trivial z⟩
    have key : ∀ u : S1, gI u 1 0 = gI s 1 0 → gI u 2 0 = 0 → ∀ m', hu (oW M_Mo_feed_L60 (0, 0, m')) u (fun r w => frP s (gI w 1 0, r) w) := fun u u1 u2 m' => by
      refine hu_mono (hfeedL (by rw [u1]; exact h0) (by rw [u1]; exact c)) ?_
      rintro r w ⟨w1, w2⟩
      exact .inl ⟨c, rfl, by rw [w1, u1], by rw [w2, u2]⟩
    refine key _ ?_ ?_ _
    · show gI (nwR (sI s 2 0 0) 94 0 (5 : Int32).toNatClampNeg) 1 0 = _
      rw [gI_nwR, if_neg (fun z => by omega), if_neg (fun z => by omega), I1]
    · show gI (nwR (sI s 2 0 0) 94 0 (5 : Int32).toNatClampNeg) 2 0 = _
      rw [gI_nwR, if_neg (fun z => by omega), if_neg (fun z => by omega), I2]
  · rw [i32_le, e6] at c
    simp only [M_Mo_feed_j22, M_Mo_refuse, hu_B, hu_C, hu_GI, hu_PI, hu_R, hu_K]
    refine ⟨fun z => absurd z (by decide), fun _ _ => ⟨fun z => absurd z (by decide), fun _ => .inr ⟨by omega, rfl, ?_, ?_⟩⟩⟩
    · rw [gI_sI, if_neg (fun z => absurd z.1 (by decide))]
      exact I1
    · rw [gI_sI, if_pos ⟨rfl, rfl⟩]
theorem jfeedR {s : S1} {m e : Nat × Nat} (h : Vz s m (e.1 + 1, e.2 + 5)) (a b c d f : Int32) : ok (M_Mo_feed m a b c d f) s (frQ s e) := by
  obtain ⟨v, t, E, q⟩ := ok_out (rfeed_ok h a b c d f)
  exact ok_in E ⟨q, yk_Mo_feed m a b c d f s v t E, t3k_Mo_feed m a b c d f s v t E, hfeed h.1.1 a b c d f v t E⟩
theorem jp_feed {s : S1} {n m e : Nat × Nat} (h : Jt s n m (e.1 + 1, e.2 + 5)) (a b c d f : Int32) : ok (X_feed a b c d f) s (fun r t => ∀ t', ouT t t' → ok (M_Mo_feed m a b c d f) t' (fun v w => Jt w n v.2 e ∧ gB w 155 0 0 = gB t' 155 0 0 ∧ ((r = .inr v.1 ∧ gI w 2 0 = 0) ∨ (r = .inl 1 ∧ v.1 = 0 ∧ gI w 2 0 = 1)))) := by
  refine ok_mono (jfeedC h.1.1 a b c d f) ?_
  rintro r t ⟨ft, zr, q⟩ t' ht
  have jt := ht.jz (h.1.cls ft zr)
  have e1 : gI t' 1 0 = gI s 1 0 := (ht.I _ _).trans (zr.1 1 0 (by omega))
  refine ok_mono (jfeedR (e := e) jt.2.1 a b c d f) ?_
  rintro v w ⟨vw, yr, l, p⟩
  have jw := jt.ref vw yr l
  have e2 : gI w 12800 0 = gI t 12800 0 := (yr.1 12800 0 (by omega)).trans (ht.I _ _)
  have e3 : gB w 155 0 0 = gB t' 155 0 0 := yr.2.2.2 155 0 0 (by omega)
  rw [e1, ← h.2] at p
  rcases q with ⟨q1, er, et⟩ | ⟨q1, er, et⟩
  · rcases p with ⟨-, ev, ew, e0⟩ | ⟨l', -⟩
    · have ez : gI w 12800 0 = gI w 1 0 := toInt_inj (by rw [e2, et, ew])
      exact ⟨⟨jw, ez⟩, e3, .inl ⟨by rw [er, ev, ← ez, e2], e0⟩⟩
    · omega
  · rcases p with ⟨l', -⟩ | ⟨-, ev, ew, e0⟩
    · omega
    · exact ⟨⟨jw, by rw [e2, ew, et]⟩, e3, .inr ⟨er, ev, e0⟩⟩
theorem jt_e {s : S1} {n m : Nat × Nat} {k : Nat} (h : Jt s n m (k + 1, 5 * k + 5)) : Jt s n m (k, 5 * k) := by
  obtain ⟨⟨a, ⟨b1, b2, b3, b4, ⟨b5, b6⟩, b7⟩, c⟩, d⟩ := h
  refine ⟨⟨a, ⟨b1, b2, b3, b4, ⟨?_, ?_⟩, b7⟩, c⟩, d⟩
  · dsimp only at b5 ⊢
    omega
  · dsimp only at b6 ⊢
    omega
